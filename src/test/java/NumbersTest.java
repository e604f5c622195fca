import java.util.function.Consumer;
import java.util.function.Supplier;

/**
 * Every number that a call takes: the smallest and the largest that is allowed and the next one on
 * either side, every sort of node that is not wanted, and every state in which a call is refused.
 */
public final class NumbersTest extends Checks {
    private static final int LEAST = Integer.MIN_VALUE;
    private static final int MOST = Integer.MAX_VALUE;

    /** Numbers that are no node's in a town: 8 is the next to be made. */
    private static final int[] NOT_MADE = {LEAST, -1, 8, 79, 80, MOST};
    private static final int[] GONE_ONES = {5, 6, 7};
    private static final int[] KEEPERS = {0, 2};
    private static final int[] WORKERS = {1, 3, 4};

    private interface Numbered {
        void with(Tree x, int... numbers);
    }

    private interface OfNode {
        void of(Tree x, int node);
    }

    /** Where calls are made, and what a call with right numbers throws there, if anything. */
    private record Scene(Supplier<Tree> maker, Class<? extends Exception> otherwise) {
    }

    private static final Scene TOWN_UP = new Scene(() -> town(true), null);
    private static final Scene TOWN_DOWN = new Scene(() -> town(false), null);
    private static final Scene HALF_UP = new Scene(NumbersTest::halfUp, null);
    private static final Scene FULL = new Scene(NumbersTest::full, STATE);
    private static final Scene DEEP = new Scene(NumbersTest::deep, STATE);
    private static final Scene NEW = new Scene(Tree::new, null);

    public static void main(String[] args) {
        first();
        keeper();
        worker();
        failing();
        begin();
        ends();
        kill();
        stop();
        again();
        remove();
        pass();
        state();
        about();
        child();
        event();
        total();
        theLastNumber();
        closeTest();
    }

    private static void first() {
        subject("promise 2, first");
        firstNumbers(TOWN_DOWN);
        firstNumbers(new Scene(() -> town(true), STATE));
        refusesState("it is up", TOWN_UP, x -> x.first(0, 1, 5));
    }

    private static void firstNumbers(Scene scene) {
        Numbered call = (x, n) -> x.first(n[0], n[1], n[2]);
        int[] right = {0, 1, 5};
        bounds("strategy", scene, call, right, 0, 0, 2);
        bounds("r", scene, call, right, 1, 0, 50);
        bounds("t", scene, call, right, 2, 1, 1000);
    }

    private static void keeper() {
        subject("promise 3, keeper");
        keeperNumbers(TOWN_UP, 0);
        keeperNumbers(TOWN_DOWN, 2);
        keeperNumbers(FULL, 0);
        keeperNumbers(DEEP, 8);
        refusesNodes((x, node) -> x.keeper(node, 0, 0, 1, 5), NOT_MADE, GONE_ONES, WORKERS);
        refusesState("there were 80", FULL, x -> x.keeper(0, 0, 0, 1, 5));
        refusesState("too deep", DEEP, x -> x.keeper(8, 0, 0, 1, 5));
        refusesArgument("80, and of a worker", FULL, x -> x.keeper(79, 0, 0, 1, 5));
    }

    private static void keeperNumbers(Scene scene, int of) {
        Numbered call = (x, n) -> x.keeper(n[0], n[1], n[2], n[3], n[4]);
        int[] right = {of, 0, 0, 1, 5};
        bounds("kind", scene, call, right, 1, 0, 2);
        bounds("strategy", scene, call, right, 2, 0, 2);
        bounds("r", scene, call, right, 3, 0, 50);
        bounds("t", scene, call, right, 4, 1, 1000);
    }

    private static void worker() {
        subject("promise 4, worker");
        workerNumbers(TOWN_UP, 0);
        workerNumbers(TOWN_DOWN, 2);
        workerNumbers(FULL, 0);
        workerNumbers(DEEP, 8);
        refusesNodes((x, node) -> x.worker(node, 0, 1, 1, 1, 0), NOT_MADE, GONE_ONES, WORKERS);
        refusesState("there were 80", FULL, x -> x.worker(0, 0, 1, 1, 1, 0));
        refusesState("too deep", DEEP, x -> x.worker(8, 0, 1, 1, 1, 0));
        refusesArgument("80, and of a worker", FULL, x -> x.worker(79, 0, 1, 1, 1, 0));
    }

    private static void workerNumbers(Scene scene, int of) {
        Numbered call = (x, n) -> x.worker(n[0], n[1], n[2], n[3], n[4], n[5]);
        int[] right = {of, 0, 1, 1, 1, 0};
        bounds("kind", scene, call, right, 1, 0, 2);
        bounds("patience", scene, call, right, 2, NONE, 1000);
        bounds("start", scene, call, right, 3, 0, 100);
        bounds("stop", scene, call, right, 4, 0, 100);
        bounds("failures", scene, call, right, 5, 0, 50);
    }

    private static void failing() {
        subject("promise 5, failing");
        Numbered call = (x, n) -> x.failing(n[0], n[1]);
        for (int worker : WORKERS) {
            bounds("failures", TOWN_UP, call, new int[] {worker, 0}, 1, 0, 50);
            bounds("failures", TOWN_DOWN, call, new int[] {worker, 0}, 1, 0, 50);
        }
        refusesNodes((x, node) -> x.failing(node, 1), NOT_MADE, GONE_ONES, KEEPERS);
    }

    private static void begin() {
        subject("promise 6, begin");
        refusesState("it is up", TOWN_UP, x -> x.begin());
        refusesState("it is up, with no child", new Scene(NumbersTest::aloneAndUp, STATE), x -> x.begin());
    }

    private static void ends() {
        subject("promise 7, ends");
        Numbered call = (x, n) -> x.ends(n[0], n[1]);
        for (int worker : WORKERS) {
            bounds("reason", TOWN_UP, call, new int[] {worker, 2}, 1, 0, 9);
            bounds("reason", new Scene(() -> town(false), STATE), call, new int[] {worker, 2}, 1, 0, 9);
            refusesState("it is not up", TOWN_DOWN, x -> x.ends(worker, 2));
        }
        refusesNodes((x, node) -> x.ends(node, 2), NOT_MADE, GONE_ONES, KEEPERS);
    }

    private static void kill() {
        subject("promise 8, kill");
        for (int node = 0; node <= 4; node++) {
            int killed = node;
            refusesState("it is not up", TOWN_DOWN, x -> x.kill(killed));
        }
        refusesNodes((x, node) -> x.kill(node), NOT_MADE, GONE_ONES);
    }

    private static void stop() {
        subject("promise 9, stop");
        for (int node = 1; node <= 4; node++) {
            int stopped = node;
            refusesState("it is not up", TOWN_DOWN, x -> x.stop(stopped));
        }
        refusesState("stopped with its keeper", HALF_UP, x -> x.stop(3));
        refusesNodes((x, node) -> x.stop(node), NOT_MADE, GONE_ONES, new int[] {0});
    }

    private static void again() {
        subject("promise 10, again");
        for (int node = 1; node <= 4; node++) {
            int started = node;
            refusesState("it is up", TOWN_UP, x -> x.again(started));
            refusesState("its keeper is down", TOWN_DOWN, x -> x.again(started));
        }
        refusesState("its keeper is down, though 0 is up", HALF_UP, x -> x.again(3));
        refusesNodes((x, node) -> x.again(node), NOT_MADE, GONE_ONES, new int[] {0});
    }

    private static void remove() {
        subject("promise 11, remove");
        for (int node = 1; node <= 4; node++) {
            int removed = node;
            refusesState("it is up", TOWN_UP, x -> x.remove(removed));
        }
        refusesNodes((x, node) -> x.remove(node), NOT_MADE, GONE_ONES, new int[] {0});
    }

    private static void pass() {
        subject("promise 12, pass");
        bounds("n", TOWN_UP, (x, n) -> x.pass(n[0]), new int[] {0}, 0, 0, 10000);
    }

    private static void state() {
        subject("promise 13, state");
        refusesNodes((x, node) -> x.state(node), NOT_MADE);
        for (int node : GONE_ONES) {
            due("of a gone one, " + node, town(true).state(node), GONE);
        }
    }

    private static void about() {
        subject("promise 14, about");
        for (int node = 0; node <= 4; node++) {
            bounds("what", TOWN_UP, (x, n) -> x.about(n[0], n[1]), new int[] {node, 0}, 1, 0, 7);
        }
        for (int what = -1; what <= 8; what++) {
            int asked = what;
            refusesNodes((x, node) -> x.about(node, asked), NOT_MADE, GONE_ONES);
        }
    }

    private static void child() {
        subject("promise 15, child");
        for (int i : new int[] {LEAST, -1, 0, MOST}) {
            refusesNodes((x, node) -> x.child(node, i), NOT_MADE, GONE_ONES, WORKERS);
        }
        Tree x = town(true);
        for (int i : new int[] {LEAST, -1, 2, MOST}) {
            due("none there, " + i, x.child(0, i), NONE);
        }
        due("the first", x.child(0, 0), 1);
        due("the last", x.child(0, 1), 2);
        Tree alone = new Tree();
        for (int i : new int[] {LEAST, -1, 0, 1, MOST}) {
            due("of an empty row, " + i, alone.child(0, i), NONE);
        }
    }

    private static void event() {
        subject("promise 16, event");
        Numbered call = (x, n) -> x.event(n[0], n[1]);
        for (int i : new int[] {LEAST, -1, 0, 18, 19, 599, 600, MOST}) {
            bounds("what of event " + i, TOWN_UP, call, new int[] {i, 0}, 1, 0, 3);
            bounds("what of event " + i + " of none", NEW, call, new int[] {i, 0}, 1, 0, 3);
        }
        Tree x = town(true);
        due("events", x.total(4), 19);
        for (int i : new int[] {LEAST, -1, 19, 599, 600, MOST}) {
            dueRow("none there, " + i, eventRow(x, i), NONE, NONE, NONE, NONE);
        }
        dueRow("the first", eventRow(x, 0), 7, 5, 0, 0);
        dueRow("the last", eventRow(x, 18), 1, 4, 14, 0);
    }

    private static void total() {
        subject("promise 17, total");
        bounds("what", TOWN_UP, (x, n) -> x.total(n[0]), new int[] {0}, 0, 0, 6);
        bounds("what", NEW, (x, n) -> x.total(n[0]), new int[] {0}, 0, 0, 6);
    }

    /** With 80 nodes 79 is one for every call, and 80 is none for any. */
    private static void theLastNumber() {
        subject("Terms, NODES are 0 .. 79");
        Tree x = full();
        due("state(79)", x.state(79), UP);
        dueRow("about 79", abouts(x, 79), 0, 78, 1, 0, 0, NONE, NONE, 0);
        due("failing(79, 0)", x.failing(79, 0), 0);
        due("kill(79)", x.kill(79), 1);
        x.ends(79, 0);
        x.stop(79);
        due("again(79)", x.again(79), true);
        x.stop(79);
        due("remove(79)", x.remove(79), 1);
        due("state(79) then", x.state(79), GONE);
        OfNode[] calls = {
            (y, node) -> y.keeper(node, 0, 0, 1, 5), (y, node) -> y.worker(node, 0, 1, 1, 1, 0),
            (y, node) -> y.failing(node, 1), (y, node) -> y.ends(node, 2), (y, node) -> y.kill(node),
            (y, node) -> y.stop(node), (y, node) -> y.again(node), (y, node) -> y.remove(node),
            (y, node) -> y.state(node), (y, node) -> y.about(node, 0), (y, node) -> y.child(node, 0),
        };
        for (OfNode call : calls) {
            refusesArgument("node 80", FULL, y -> call.of(y, 80));
        }
    }

    // ---- where the calls are made

    /**
     * 0 keeps worker 1 and keeper 2, which keeps the workers 3 and 4; worker 5 and keeper 6 with its
     * worker 7 are gone. No number in it is the one that a refused call brings. If it is up, both
     * keepers have a restart counted.
     */
    private static Tree town(boolean up) {
        Tree x = new Tree();
        x.first(REST, 3, 20);
        x.worker(0, PERMANENT, 4, 1, 3, 0);
        x.keeper(0, PERMANENT, ALL, 2, 8);
        x.worker(2, TRANSIENT, 3, 1, 2, 0);
        x.worker(2, PERMANENT, 2, 1, 3, 0);
        x.worker(0, PERMANENT, 1, 1, 1, 0);
        x.keeper(0, PERMANENT, ONE, 1, 5);
        x.worker(6, PERMANENT, 1, 1, 1, 0);
        x.remove(5);
        x.remove(6);
        if (up) {
            x.begin();
            x.ends(1, 2);
            x.ends(4, 2);
        } else {
            x.failing(3, 2);
        }
        return x;
    }

    /** Its keeper 2 is down, and so are 3 and 4. */
    private static Tree halfUp() {
        Tree x = town(true);
        x.stop(2);
        return x;
    }

    private static Tree aloneAndUp() {
        Tree x = new Tree();
        x.begin();
        return x;
    }

    /** 80 nodes, all up. */
    private static Tree full() {
        Tree x = new Tree();
        x.first(ONE, 9, 10);
        for (int node = 1; node < 80; node++) {
            x.worker(0, PERMANENT, 1, 0, 1, 0);
        }
        x.begin();
        return x;
    }

    /** Keeper 8 is at depth 8. */
    private static Tree deep() {
        Tree x = new Tree();
        for (int node = 1; node <= 8; node++) {
            x.keeper(node - 1, PERMANENT, ONE, 1, 5);
        }
        x.begin();
        return x;
    }

    // ---- what is looked at

    /** The number at a place of the right ones may be least .. most, and no other. */
    private static void bounds(String name, Scene scene, Numbered call, int[] right, int place, int least,
            int most) {
        for (int number : new int[] {LEAST, least - 1, least, most, most + 1, MOST}) {
            int[] numbers = right.clone();
            numbers[place] = number;
            String told = name + " " + number;
            if (number < least || number > most) {
                refusesArgument(told, scene, x -> call.with(x, numbers));
            } else if (scene.otherwise == STATE) {
                refusesState(told, scene, x -> call.with(x, numbers));
            } else {
                goesThrough(told, scene, x -> call.with(x, numbers));
            }
        }
    }

    private static void refusesNodes(OfNode call, int[]... wrongNodes) {
        for (int[] nodes : wrongNodes) {
            for (int node : nodes) {
                refusesArgument("node " + node + ", up", TOWN_UP, x -> call.of(x, node));
                refusesArgument("node " + node + ", down", TOWN_DOWN, x -> call.of(x, node));
            }
        }
    }

    private static void goesThrough(String call, Scene scene, Consumer<Tree> made) {
        Class<?> thrown = null;
        try {
            made.accept(scene.maker.get());
        } catch (RuntimeException e) {
            thrown = e.getClass();
        }
        due(call + " throws " + thrown, thrown != null, false);
    }

    private static void refusesArgument(String call, Scene scene, Consumer<Tree> refused) {
        Tree x = scene.maker.get();
        refuses(x, ARGUMENT, call, () -> refused.accept(x));
    }

    private static void refusesState(String call, Scene scene, Consumer<Tree> refused) {
        Tree x = scene.maker.get();
        refuses(x, STATE, call, () -> refused.accept(x));
    }
}
