import java.util.Random;

/** Long runs of calls, right and wrong ones, with what must hold after every one of them. */
public final class RandomRunsTest extends Checks {
    private static final int RUNS = 60;
    private static final int CALLS = 250;

    private final Tree tree = new Tree();
    private final Random random;
    private final int run;
    private final int[] keeperOf = new int[80];
    private final int[] replayed = new int[80];
    private int eventsSeen = 0;
    private int lastTime = 0;
    private int gaveUp = 0;
    private String lastCall = "";
    private boolean right = true;

    private RandomRunsTest(int run) {
        this.run = run;
        this.random = new Random(run);
        keeperOf[0] = NONE;
    }

    public static void main(String[] args) {
        int wrong = 0;
        for (int run = 0; run < RUNS; run++) {
            RandomRunsTest test = new RandomRunsTest(run);
            test.go();
            wrong += test.right ? 0 : 1;
        }
        System.out.println(wrong == 0 ? "all runs are as due" : wrong + " runs are not as due");
        if (wrong != 0) {
            System.exit(1);
        }
    }

    private void go() {
        for (int i = 0; i < CALLS && right; i++) {
            Tree before = tree.copy();
            try {
                call();
            } catch (RuntimeException e) {
                want(e.getClass() == ARGUMENT || e.getClass() == STATE, "throws " + e.getClass());
                want(everything(before).equals(everything(tree)), "a refused call changes nothing");
            }
            replay();
            lookAtTree();
        }
    }

    private int node() {
        return random.nextInt(tree.total(1) + 2) - 1;
    }

    private int within(int least, int most) {
        return random.nextInt(25) == 0 ? (random.nextBoolean() ? least - 1 : most + 1)
                : least + random.nextInt(most - least + 1);
    }

    private void call() {
        int of = node();
        int made = tree.total(1);
        switch (random.nextInt(14)) {
            case 0:
                lastCall = "keeper";
                tree.keeper(of, within(0, 2), within(0, 2), within(0, 4), within(1, 20));
                keeperOf[made] = of;
                break;
            case 1:
            case 2:
                lastCall = "worker";
                int number = tree.worker(of, within(0, 2), within(-1, 5), within(0, 3), within(0, 6),
                        random.nextInt(4) == 0 ? within(0, 3) : 0);
                keeperOf[made] = of;
                want(number == (tree.state(made) == 2 ? NONE : made), "the worker's number");
                break;
            case 3:
                lastCall = "failing";
                tree.failing(of, within(0, 3));
                break;
            case 4:
            case 5:
                lastCall = "begin";
                want(tree.begin() == (tree.state(0) == 1), "what begin() answers");
                break;
            case 6:
            case 7:
            case 8:
                lastCall = "ends";
                tree.ends(of, within(0, 9));
                break;
            case 9:
                lastCall = "kill";
                int up = tree.total(4);
                int killed = tree.kill(of);
                want(tree.total(4) >= up + killed, "as many are killed as told");
                break;
            case 10:
                lastCall = "stop";
                tree.stop(of);
                want(tree.state(of) != 1, "a stopped one is not up");
                break;
            case 11:
                lastCall = "again";
                want(tree.again(of) == (tree.state(of) == 1), "what again() answers");
                break;
            case 12:
                lastCall = "remove";
                if (random.nextInt(4) == 0) {
                    int gone = tree.total(3);
                    want(tree.remove(of) == tree.total(3) - gone, "what remove() answers");
                }
                break;
            default:
                lastCall = "pass or first";
                if (random.nextBoolean()) {
                    want(tree.pass(within(0, 5)) == tree.total(0), "what pass() answers");
                } else {
                    tree.first(within(0, 2), within(0, 9), within(1, 20));
                }
        }
    }

    /** The events alone tell each node's state, as long as they are kept. */
    private void replay() {
        for (; eventsSeen < tree.total(4) && eventsSeen < 600; eventsSeen++) {
            int node = tree.event(eventsSeen, 1);
            int time = tree.event(eventsSeen, 2);
            want(time >= lastTime && time <= tree.total(0), "TIME goes on");
            lastTime = time;
            switch (tree.event(eventsSeen, 0)) {
                case 1:
                    want(replayed[node] == 0, "only one that is down comes up");
                    replayed[node] = 1;
                    break;
                case 2:
                    want(replayed[node] == 0, "only one that is down fails");
                    break;
                case 3:
                case 4:
                case 5:
                    want(replayed[node] == 1, "only one that is up is ended");
                    replayed[node] = 0;
                    break;
                case 6:
                    want(replayed[node] == 1, "only one that is up gives up");
                    replayed[node] = 0;
                    gaveUp++;
                    break;
                default:
                    want(replayed[node] == 0, "only one that is down is gone");
                    goneWithAllBelow(node);
            }
        }
        if (tree.total(4) > 600) {
            want(tree.event(599, 0) > 0 && tree.event(600, 0) == NONE, "600 events are kept");
            return;
        }
        want(gaveUp == tree.total(6), "keepers that gave up");
        for (int node = 0; node < tree.total(1); node++) {
            want(replayed[node] == tree.state(node), "state of " + node + " is as told");
        }
    }

    private void goneWithAllBelow(int top) {
        replayed[top] = 2;
        for (int node = top + 1; node < 80; node++) {
            if (node < tree.total(1) && replayed[keeperOf[node]] == 2) {
                replayed[node] = 2;
            }
        }
    }

    private void lookAtTree() {
        int[] count = new int[3];
        for (int node = 0; node < tree.total(1); node++) {
            count[tree.state(node)]++;
            if (node > 0 && tree.state(node) != 2) {
                lookAtChild(node);
            }
        }
        want(count[1] == tree.total(2), "nodes that are up");
        want(count[2] == tree.total(3), "nodes that are gone");
    }

    private void lookAtChild(int node) {
        int keeper = tree.about(node, 0);
        want(keeper == keeperOf[node], "keeper of " + node);
        want(tree.child(keeper, tree.about(node, 1)) == node, "place of " + node);
        want(tree.about(node, 2) == tree.about(keeper, 2) + 1, "depth of " + node);
        want(tree.state(node) == 0 || tree.state(keeper) == 1, "only a keeper that is up has children up");
        want(tree.about(node, 3) != 2 || tree.state(node) == tree.state(keeper),
                "a temporary child is up as long as its keeper");
    }

    private void want(boolean holds, String what) {
        if (!holds && right) {
            right = false;
            System.out.println("run " + run + ", after " + lastCall + ": not so: " + what);
        }
    }
}
