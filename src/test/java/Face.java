/** The calls of the document's face: of the class itself, and of what it is compared with. */
interface Face {
    void first(int strategy, int r, int t);

    int keeper(int of, int kind, int strategy, int r, int t);

    int worker(int of, int kind, int patience, int start, int stop, int failures);

    int failing(int worker, int failures);

    boolean begin();

    void ends(int worker, int reason);

    int kill(int node);

    void stop(int child);

    boolean again(int child);

    int remove(int child);

    int pass(int n);

    int state(int node);

    int about(int node, int what);

    int child(int keeper, int i);

    int event(int i, int what);

    int total(int what);
}
