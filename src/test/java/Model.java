import java.util.ArrayList;
import java.util.Collections;
import java.util.List;

/**
 * The document's sentences as code, in its own order and words, with no thought for room or time: what
 * the class answers is compared with this. One node is one row of fields, a keeper's or a worker's.
 */
final class Model implements Face {
    private static final int NONE = -1;

    private static final class Node {
        final int number;
        final Node keeper;
        final int kind;
        final boolean isKeeper;
        String state = "down";
        final List<Node> row = new ArrayList<>();
        final List<Integer> counted = new ArrayList<>();
        int strategy;
        int r;
        int t;
        int patience;
        int start;
        int stop;
        int failures;

        Node(int number, Node keeper, int kind, boolean isKeeper) {
            this.number = number;
            this.keeper = keeper;
            this.kind = kind;
            this.isKeeper = isKeeper;
        }

        boolean is(String wanted) {
            return state.equals(wanted);
        }

        int depth() {
            return keeper == null ? 0 : keeper.depth() + 1;
        }
    }

    private final List<Node> nodes = new ArrayList<>();
    private final List<int[]> events = new ArrayList<>();
    private int time = 0;
    private int restarts = 0;

    Model() {
        Node zero = new Node(0, null, 0, true);
        zero.strategy = 0;
        zero.r = 1;
        zero.t = 5;
        nodes.add(zero);
    }

    // ---- Terms

    private boolean starting(Node node) {
        boolean failed;
        if (node.isKeeper) {
            node.counted.clear();
            failed = firstThatFailed(node.row) != null;
            if (failed) {
                stoppingThoseUp(node.row);
            }
        } else {
            time += node.start;
            failed = node.failures > 0;
            node.failures -= failed ? 1 : 0;
        }
        node.state = failed ? "down" : "up";
        tell(failed ? 2 : 1, node, 0);
        return !failed;
    }

    /** They are started, in order; none behind one that FAILED. */
    private Node firstThatFailed(List<Node> row) {
        for (Node node : row) {
            if (!starting(node)) {
                return node;
            }
        }
        return null;
    }

    private void stopping(Node node) {
        boolean killed = false;
        if (node.isKeeper) {
            stoppingThoseUp(node.row);
        } else if (node.patience == 0) {
            killed = true;
        } else if (node.patience == NONE) {
            time += node.stop;
        } else {
            time += Math.min(node.stop, node.patience);
            killed = node.stop > node.patience;
        }
        node.state = "down";
        tell(killed ? 4 : 3, node, 0);
    }

    private void stoppingThoseUp(List<Node> row) {
        for (Node node : lastFirst(row)) {
            if (node.is("up")) {
                stopping(node);
            }
        }
    }

    private void anEnd(Node child, int reason) {
        child.state = "down";
        if (child.keeper == null) {
            return;
        }
        if (child.kind == 2) {
            gone(child);
        } else if (child.kind == 0 || reason > 1) {
            restarting(child);
        }
    }

    private void restarting(Node child) {
        Node keeper = child.keeper;
        keeper.counted.add(time);
        restarts++;
        if (countedLately(keeper) > keeper.r) {
            tell(6, keeper, 0);
            stoppingThoseUp(keeper.row);
            anEnd(keeper, 1);
            return;
        }
        List<Node> reached = new ArrayList<>(keeper.row);
        if (keeper.strategy == 0) {
            reached = List.of(child);
        } else if (keeper.strategy == 2) {
            reached = reached.subList(reached.indexOf(child), reached.size());
        }
        for (Node node : lastFirst(reached)) {
            if (node.is("up")) {
                stopping(node);
                goneIfTemporary(node);
            }
        }
        List<Node> left = new ArrayList<>(reached);
        left.removeIf(node -> node.is("gone"));
        Node failed = firstThatFailed(left);
        if (failed != null) {
            restarting(failed);
        }
    }

    private int countedLately(Node keeper) {
        return (int) keeper.counted.stream().filter(when -> when >= time - keeper.t).count();
    }

    private void goneIfTemporary(Node child) {
        if (child.kind == 2) {
            gone(child);
        }
    }

    private int gone(Node child) {
        child.keeper.row.remove(child);
        tell(7, child, 0);
        List<Node> all = withAllBelow(child);
        all.forEach(node -> node.state = "gone");
        return all.size();
    }

    private static List<Node> withAllBelow(Node node) {
        List<Node> all = new ArrayList<>();
        all.add(node);
        node.row.forEach(child -> all.addAll(withAllBelow(child)));
        return all;
    }

    private static List<Node> lastFirst(List<Node> row) {
        List<Node> turned = new ArrayList<>(row);
        Collections.reverse(turned);
        return turned;
    }

    private void tell(int what, Node node, int reason) {
        events.add(new int[] {what, node.number, time, reason});
    }

    // ---- what is refused

    private Node made(int number) {
        argument(number >= 0 && number < nodes.size());
        return nodes.get(number);
    }

    private Node node(int number) {
        Node node = made(number);
        argument(!node.is("gone"));
        return node;
    }

    private Node keeperOrRefuse(int number) {
        Node node = node(number);
        argument(node.isKeeper);
        return node;
    }

    private Node workerOrRefuse(int number) {
        Node node = node(number);
        argument(!node.isKeeper);
        return node;
    }

    private Node childOrRefuse(int number) {
        Node node = node(number);
        argument(number != 0);
        return node;
    }

    private static void within(int number, int least, int most) {
        argument(least <= number && number <= most);
    }

    private static void argument(boolean right) {
        if (!right) {
            throw new IllegalArgumentException();
        }
    }

    private static void inState(boolean right) {
        if (!right) {
            throw new IllegalStateException();
        }
    }

    // ---- the promises

    public void first(int strategy, int r, int t) {
        within(strategy, 0, 2);
        within(r, 0, 50);
        within(t, 1, 1000);
        Node zero = nodes.get(0);
        inState(!zero.is("up"));
        setBounds(zero, strategy, r, t);
    }

    public int keeper(int of, int kind, int strategy, int r, int t) {
        Node keeper = keeperOrRefuse(of);
        within(kind, 0, 2);
        within(strategy, 0, 2);
        within(r, 0, 50);
        within(t, 1, 1000);
        Node child = lastOfTheRow(keeper, kind, true);
        setBounds(child, strategy, r, t);
        if (keeper.is("up")) {
            starting(child);
        }
        return child.number;
    }

    public int worker(int of, int kind, int patience, int start, int stop, int failures) {
        Node keeper = keeperOrRefuse(of);
        within(kind, 0, 2);
        within(patience, NONE, 1000);
        within(start, 0, 100);
        within(stop, 0, 100);
        within(failures, 0, 50);
        Node child = lastOfTheRow(keeper, kind, false);
        child.patience = patience;
        child.start = start;
        child.stop = stop;
        child.failures = failures;
        if (keeper.is("up") && !starting(child)) {
            gone(child);
            return NONE;
        }
        return child.number;
    }

    private static void setBounds(Node keeper, int strategy, int r, int t) {
        keeper.strategy = strategy;
        keeper.r = r;
        keeper.t = t;
    }

    private Node lastOfTheRow(Node keeper, int kind, boolean isKeeper) {
        inState(nodes.size() < 80 && keeper.depth() + 1 <= 8);
        Node child = new Node(nodes.size(), keeper, kind, isKeeper);
        nodes.add(child);
        keeper.row.add(child);
        return child;
    }

    public int failing(int worker, int failures) {
        Node node = workerOrRefuse(worker);
        within(failures, 0, 50);
        int were = node.failures;
        node.failures = failures;
        return were;
    }

    public boolean begin() {
        inState(!nodes.get(0).is("up"));
        return starting(nodes.get(0));
    }

    public void ends(int worker, int reason) {
        Node node = workerOrRefuse(worker);
        within(reason, 0, 9);
        inState(node.is("up"));
        tell(5, node, reason);
        anEnd(node, reason);
    }

    public int kill(int number) {
        Node node = node(number);
        inState(node.is("up"));
        int killed = killing(node);
        anEnd(node, 9);
        return killed;
    }

    private int killing(Node node) {
        int killed = 1;
        for (Node child : lastFirst(node.row)) {
            killed += child.is("up") ? killing(child) : 0;
        }
        node.state = "down";
        tell(4, node, 0);
        return killed;
    }

    public void stop(int child) {
        Node node = childOrRefuse(child);
        inState(node.is("up"));
        stopping(node);
        goneIfTemporary(node);
    }

    public boolean again(int child) {
        Node node = childOrRefuse(child);
        inState(!node.is("up") && node.keeper.is("up"));
        return starting(node);
    }

    public int remove(int child) {
        Node node = childOrRefuse(child);
        inState(!node.is("up"));
        return gone(node);
    }

    public int pass(int n) {
        within(n, 0, 10000);
        time += n;
        return time;
    }

    public int state(int node) {
        return List.of("down", "up", "gone").indexOf(made(node).state);
    }

    public int about(int number, int what) {
        Node node = node(number);
        within(what, 0, 7);
        boolean isZero = number == 0;
        int[] answers = {
            isZero ? NONE : node.keeper.number,
            isZero ? 0 : node.keeper.row.indexOf(node),
            node.depth(),
            node.kind,
            node.isKeeper ? 1 : 0,
            node.isKeeper ? node.row.size() : NONE,
            node.isKeeper ? countedLately(node) : NONE,
            node.isKeeper ? NONE : node.failures,
        };
        return answers[what];
    }

    public int child(int keeper, int i) {
        List<Node> row = keeperOrRefuse(keeper).row;
        return i >= 0 && i < row.size() ? row.get(i).number : NONE;
    }

    public int event(int i, int what) {
        within(what, 0, 3);
        return i >= 0 && i < Math.min(600, events.size()) ? events.get(i)[what] : NONE;
    }

    public int total(int what) {
        within(what, 0, 6);
        int[] answers = {
            time,
            nodes.size(),
            (int) nodes.stream().filter(node -> node.is("up")).count(),
            (int) nodes.stream().filter(node -> node.is("gone")).count(),
            events.size(),
            restarts,
            (int) events.stream().filter(event -> event[0] == 6).count(),
        };
        return answers[what];
    }
}
