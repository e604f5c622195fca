import java.util.ArrayList;
import java.util.List;
import java.util.function.ToIntFunction;

/**
 * A KeeperTree that a test may ask as often as it likes. Nothing is promised of an object after its
 * 512th call, so before that a new one is made by the same changing calls, and asked instead.
 */
final class Tree implements Face {
    private static final int MOST_CALLS = 512;

    private final List<ToIntFunction<KeeperTree>> changes = new ArrayList<>();
    private KeeperTree tree = new KeeperTree();
    private int calls = 0;

    /** Another one, made by the same changing calls, the refused ones among them. */
    Tree copy() {
        Tree copy = new Tree();
        copy.changes.addAll(changes);
        copy.renew();
        return copy;
    }

    public void first(int strategy, int r, int t) {
        change(x -> {
            x.first(strategy, r, t);
            return 0;
        });
    }

    public int keeper(int of, int kind, int strategy, int r, int t) {
        return change(x -> x.keeper(of, kind, strategy, r, t));
    }

    public int worker(int of, int kind, int patience, int start, int stop, int failures) {
        return change(x -> x.worker(of, kind, patience, start, stop, failures));
    }

    public int failing(int worker, int failures) {
        return change(x -> x.failing(worker, failures));
    }

    public boolean begin() {
        return change(x -> x.begin() ? 1 : 0) == 1;
    }

    public void ends(int worker, int reason) {
        change(x -> {
            x.ends(worker, reason);
            return 0;
        });
    }

    public int kill(int node) {
        return change(x -> x.kill(node));
    }

    public void stop(int child) {
        change(x -> {
            x.stop(child);
            return 0;
        });
    }

    public boolean again(int child) {
        return change(x -> x.again(child) ? 1 : 0) == 1;
    }

    public int remove(int child) {
        return change(x -> x.remove(child));
    }

    public int pass(int n) {
        return change(x -> x.pass(n));
    }

    public int state(int node) {
        return ask(x -> x.state(node));
    }

    public int about(int node, int what) {
        return ask(x -> x.about(node, what));
    }

    public int child(int keeper, int i) {
        return ask(x -> x.child(keeper, i));
    }

    public int event(int i, int what) {
        return ask(x -> x.event(i, what));
    }

    public int total(int what) {
        return ask(x -> x.total(what));
    }

    private int change(ToIntFunction<KeeperTree> call) {
        makeRoomForACall();
        changes.add(call);
        return call.applyAsInt(tree);
    }

    private int ask(ToIntFunction<KeeperTree> call) {
        makeRoomForACall();
        return call.applyAsInt(tree);
    }

    private void makeRoomForACall() {
        if (calls == MOST_CALLS) {
            renew();
        }
        if (calls == MOST_CALLS) {
            throw new AssertionError("the test makes more changes than an object is used for");
        }
        calls++;
    }

    private void renew() {
        tree = new KeeperTree();
        calls = changes.size();
        for (ToIntFunction<KeeperTree> change : changes) {
            try {
                change.applyAsInt(tree);
            } catch (RuntimeException refused) {
                // What the call answered was looked at when it was first made.
            }
        }
    }
}
