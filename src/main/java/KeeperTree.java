import java.util.ArrayList;

/** Keepers and workers as a tree; words in capitals here are the terms of the document. */
public final class KeeperTree {
    public static final int NONE = -1;

    private static final int MOST_NODES = 80;
    private static final int MOST_DEPTH = 8;
    private static final int MOST_TOLD = 600;

    private static final int ONE = 0;
    private static final int ALL = 1;
    private static final int REST = 2;
    private static final int MOST_R = 50;
    private static final int MOST_T = 1000;

    private static final int PERMANENT = 0;
    private static final int TRANSIENT = 1;
    private static final int TEMPORARY = 2;

    private static final int MOST_PATIENCE = 1000;
    private static final int MOST_UNITS = 100;
    private static final int MOST_FAILURES = 50;
    private static final int MOST_PASSED = 10000;

    private static final int DOWN = 0;
    private static final int UP = 1;
    private static final int GONE = 2;

    private static final int SHUTDOWN = 1;
    private static final int BY_KILL = 9;
    private static final int MOST_REASON = 9;

    private static final int TOLD_UP = 1;
    private static final int TOLD_FAILED = 2;
    private static final int TOLD_STOPPED = 3;
    private static final int TOLD_KILLED = 4;
    private static final int TOLD_END = 5;
    private static final int TOLD_GAVE_UP = 6;
    private static final int TOLD_GONE = 7;

    /** Far above the starts that can fail within one call (79 workers with 50 each). */
    private static final int MOST_ROUNDS = 1000000;

    private final Journal journal = new Journal();
    private final Node[] nodes = new Node[MOST_NODES];
    private final Keeper top = new Keeper(0, null, PERMANENT, ONE, 1, 5);
    private int made = 1;
    private int restartsInAll = 0;
    private int gaveUpInAll = 0;

    public KeeperTree() {
        nodes[0] = top;
    }

    public void first(int strategy, int r, int t) throws IllegalArgumentException, IllegalStateException {
        wantBounds(strategy, r, t);
        wantState(top.state != UP);
        top.strategy = strategy;
        top.r = r;
        top.t = t;
    }

    public int keeper(int of, int kind, int strategy, int r, int t)
            throws IllegalArgumentException, IllegalStateException {
        Keeper owner = keeperAt(of);
        wantWithin(kind, PERMANENT, TEMPORARY);
        wantBounds(strategy, r, t);
        wantState(hasRoomBelow(owner));
        Keeper keeper = new Keeper(made, owner, kind, strategy, r, t);
        join(keeper, owner);
        if (owner.state == UP) {
            keeper.rise(journal);
        }
        return keeper.number;
    }

    public int worker(int of, int kind, int patience, int start, int stop, int failures)
            throws IllegalArgumentException, IllegalStateException {
        Keeper owner = keeperAt(of);
        wantWithin(kind, PERMANENT, TEMPORARY);
        wantWithin(patience, NONE, MOST_PATIENCE);
        wantWithin(start, 0, MOST_UNITS);
        wantWithin(stop, 0, MOST_UNITS);
        wantWithin(failures, 0, MOST_FAILURES);
        wantState(hasRoomBelow(owner));
        Worker worker = new Worker(made, owner, kind, patience, start, stop, failures);
        join(worker, owner);
        if (owner.state == UP && !worker.rise(journal)) {
            owner.dismiss(worker, journal);
            return NONE;
        }
        return worker.number;
    }

    public int failing(int worker, int failures) throws IllegalArgumentException {
        Worker asked = workerAt(worker);
        wantWithin(failures, 0, MOST_FAILURES);
        int before = asked.failures;
        asked.failures = failures;
        return before;
    }

    public boolean begin() throws IllegalStateException {
        wantState(top.state != UP);
        return top.rise(journal);
    }

    public void ends(int worker, int reason) throws IllegalArgumentException, IllegalStateException {
        Worker ended = workerAt(worker);
        wantWithin(reason, 0, MOST_REASON);
        wantState(ended.state == UP);
        ended.state = DOWN;
        journal.tell(TOLD_END, ended.number, reason);
        handleEnd(ended, reason);
    }

    public int kill(int node) throws IllegalArgumentException, IllegalStateException {
        Node killed = nodeAt(node);
        wantState(killed.state == UP);
        int count = killed.perish(journal);
        handleEnd(killed, BY_KILL);
        return count;
    }

    public void stop(int child) throws IllegalArgumentException, IllegalStateException {
        Node stopped = nodeAt(child);
        Keeper owner = ownerOf(stopped);
        wantState(stopped.state == UP);
        owner.release(stopped, journal);
    }

    public boolean again(int child) throws IllegalArgumentException, IllegalStateException {
        Node started = nodeAt(child);
        Keeper owner = ownerOf(started);
        wantState(started.state != UP && owner.state == UP);
        return started.rise(journal);
    }

    public int remove(int child) throws IllegalArgumentException, IllegalStateException {
        Node removed = nodeAt(child);
        Keeper owner = ownerOf(removed);
        wantState(removed.state != UP);
        return owner.dismiss(removed, journal);
    }

    public int pass(int n) throws IllegalArgumentException {
        wantWithin(n, 0, MOST_PASSED);
        journal.time += n;
        return journal.time;
    }

    public int state(int node) throws IllegalArgumentException {
        return madeNode(node).state;
    }

    public int about(int node, int what) throws IllegalArgumentException {
        Node asked = nodeAt(node);
        switch (what) {
            case 0:
                return asked.owner == null ? NONE : asked.owner.number;
            case 1:
                return asked.owner == null ? 0 : asked.owner.placeOf(asked);
            case 2:
                return asked.depth;
            case 3:
                return asked.kind;
            case 4:
                return asked instanceof Keeper ? 1 : 0;
            case 5:
                return asked instanceof Keeper k ? k.row.size() : NONE;
            case 6:
                return asked instanceof Keeper k ? k.recentRestarts(journal.time) : NONE;
            case 7:
                return asked instanceof Worker w ? w.failures : NONE;
            default:
                throw new IllegalArgumentException();
        }
    }

    public int child(int keeper, int i) throws IllegalArgumentException {
        Keeper asked = keeperAt(keeper);
        return i >= 0 && i < asked.row.size() ? asked.row.get(i).number : NONE;
    }

    public int event(int i, int what) throws IllegalArgumentException {
        wantWithin(what, 0, Journal.COLUMNS - 1);
        return journal.told(i, what);
    }

    public int total(int what) throws IllegalArgumentException {
        switch (what) {
            case 0:
                return journal.time;
            case 1:
                return made;
            case 2:
                return countIn(UP);
            case 3:
                return countIn(GONE);
            case 4:
                return journal.size;
            case 5:
                return restartsInAll;
            case 6:
                return gaveUpInAll;
            default:
                throw new IllegalArgumentException();
        }
    }

    private static void wantWithin(int number, int least, int most) {
        if (number < least || number > most) {
            throw new IllegalArgumentException();
        }
    }

    private static void wantBounds(int strategy, int r, int t) {
        wantWithin(strategy, ONE, REST);
        wantWithin(r, 0, MOST_R);
        wantWithin(t, 1, MOST_T);
    }

    private static void wantState(boolean holds) {
        if (!holds) {
            throw new IllegalStateException();
        }
    }

    private Node madeNode(int number) {
        wantWithin(number, 0, MOST_NODES - 1);
        Node node = nodes[number];
        if (node == null) {
            throw new IllegalArgumentException();
        }
        return node;
    }

    private Node nodeAt(int number) {
        Node node = madeNode(number);
        if (node.state == GONE) {
            throw new IllegalArgumentException();
        }
        return node;
    }

    private Keeper keeperAt(int number) {
        if (nodeAt(number) instanceof Keeper keeper) {
            return keeper;
        }
        throw new IllegalArgumentException();
    }

    private Worker workerAt(int number) {
        if (nodeAt(number) instanceof Worker worker) {
            return worker;
        }
        throw new IllegalArgumentException();
    }

    private static Keeper ownerOf(Node node) {
        if (node.owner == null) {
            throw new IllegalArgumentException();
        }
        return node.owner;
    }

    private boolean hasRoomBelow(Keeper owner) {
        return made < MOST_NODES && owner.depth < MOST_DEPTH;
    }

    private void join(Node node, Keeper owner) {
        nodes[node.number] = node;
        owner.row.add(node);
        made++;
    }

    private int countIn(int state) {
        int count = 0;
        for (int i = 0; i < MOST_NODES; i++) {
            Node node = nodes[i];
            if (node != null && node.state == state) {
                count++;
            }
        }
        return count;
    }

    /** A keeper that gives up has an end of its own, so this climbs until one does not. */
    private void handleEnd(Node ended, int reason) {
        Node node = ended;
        int why = reason;
        for (int level = 0; level <= MOST_DEPTH; level++) {
            Keeper owner = node.owner;
            if (owner == null) {
                return;
            }
            if (node.kind == TEMPORARY) {
                owner.dismiss(node, journal);
                return;
            }
            if (node.kind == TRANSIENT && why <= SHUTDOWN) {
                return;
            }
            if (restartOrGiveUp(owner, node)) {
                return;
            }
            node = owner;
            why = SHUTDOWN;
        }
    }

    /** Whether the keeper is still up; each further round has used up one start that was to fail. */
    private boolean restartOrGiveUp(Keeper keeper, Node child) {
        Node due = child;
        for (int round = 0; round < MOST_ROUNDS; round++) {
            restartsInAll++;
            keeper.restarts.add(journal.time);
            if (keeper.recentRestarts(journal.time) > keeper.r) {
                gaveUpInAll++;
                keeper.giveUp(journal);
                return false;
            }
            if (keeper.strategy == ONE) {
                due = due.rise(journal) ? null : due;
            } else {
                int from = keeper.strategy == ALL ? 0 : keeper.placeOf(due);
                keeper.releaseFrom(from, journal);
                due = keeper.riseFrom(from, journal);
            }
            if (due == null) {
                return true;
            }
        }
        return true;
    }

    /** TIME, and the events told so far. */
    private static final class Journal {
        static final int COLUMNS = 4;

        private final int[][] columns = new int[COLUMNS][MOST_TOLD];
        int time = 0;
        int size = 0;

        void tell(int what, int node, int reason) {
            if (size < MOST_TOLD) {
                columns[0][size] = what;
                columns[1][size] = node;
                columns[2][size] = time;
                columns[3][size] = reason;
            }
            size++;
        }

        int told(int i, int column) {
            boolean known = i >= 0 && i < size && i < MOST_TOLD && column >= 0 && column < COLUMNS;
            return known ? columns[column][i] : NONE;
        }
    }

    /** The times of a keeper's restarts, oldest first. */
    private static final class RestartTimes {
        private int[] times = new int[8];
        private int size = 0;

        void add(int time) {
            if (size >= times.length) {
                makeRoom(time - MOST_T);
            }
            times[size] = time;
            size++;
        }

        int notBefore(int bound) {
            int count = 0;
            for (int i = size - 1; i >= 0 && times[i] >= bound; i--) {
                count++;
            }
            return count;
        }

        void clear() {
            size = 0;
        }

        /** All that the widest t could still reach is kept: first() may widen keeper 0's. */
        private void makeRoom(int bound) {
            int kept = notBefore(bound);
            // A row more than half full grows, so that it is not moved again at every restart.
            int[] target = kept > times.length / 2 ? new int[times.length * 2] : times;
            System.arraycopy(times, size - kept, target, 0, kept);
            times = target;
            size = kept;
        }
    }

    private abstract static class Node {
        final int number;
        final Keeper owner;
        final int depth;
        final int kind;
        int state = DOWN;

        Node(int number, Keeper owner, int kind) {
            this.number = number;
            this.owner = owner;
            this.depth = owner == null ? 0 : owner.depth + 1;
            this.kind = kind;
        }

        /** STARTING one that is down: whether it is up then. */
        abstract boolean rise(Journal journal);

        /** What a start comes to, and whether it is up then. */
        boolean settle(boolean failed, Journal journal) {
            state = failed ? DOWN : UP;
            journal.tell(failed ? TOLD_FAILED : TOLD_UP, number, 0);
            return !failed;
        }

        /** STOPPING one that is up. */
        abstract void fall(Journal journal);

        /** KILLED at once, with all below that are up: how many that were. */
        abstract int perish(Journal journal);

        /** GONE, with all below: how many that are. */
        abstract int vanish();
    }

    private static final class Worker extends Node {
        private final int patience;
        private final int startUnits;
        private final int stopUnits;
        int failures;

        Worker(int number, Keeper owner, int kind, int patience, int start, int stop, int failures) {
            super(number, owner, kind);
            this.patience = patience;
            this.startUnits = start;
            this.stopUnits = stop;
            this.failures = failures;
        }

        boolean rise(Journal journal) {
            journal.time += startUnits;
            boolean failed = failures > 0;
            if (failed) {
                failures--;
            }
            return settle(failed, journal);
        }

        void fall(Journal journal) {
            boolean inTime = patience == NONE || patience > 0 && stopUnits <= patience;
            journal.time += inTime ? stopUnits : patience;
            state = DOWN;
            journal.tell(inTime ? TOLD_STOPPED : TOLD_KILLED, number, 0);
        }

        int perish(Journal journal) {
            state = DOWN;
            journal.tell(TOLD_KILLED, number, 0);
            return 1;
        }

        int vanish() {
            state = GONE;
            return 1;
        }
    }

    /** Its methods that go down the tree end there: no node is made below MOST_DEPTH. */
    private static final class Keeper extends Node {
        final ArrayList<Node> row = new ArrayList<Node>();
        final RestartTimes restarts = new RestartTimes();
        int strategy;
        int r;
        int t;

        Keeper(int number, Keeper owner, int kind, int strategy, int r, int t) {
            super(number, owner, kind);
            this.strategy = strategy;
            this.r = r;
            this.t = t;
        }

        boolean rise(Journal journal) {
            restarts.clear();
            boolean failed = riseFrom(0, journal) != null;
            if (failed) {
                fallAll(journal);
            }
            return settle(failed, journal);
        }

        void fall(Journal journal) {
            fallAll(journal);
            state = DOWN;
            journal.tell(TOLD_STOPPED, number, 0);
        }

        int perish(Journal journal) {
            int count = 1;
            for (int i = row.size() - 1; i >= 0; i--) {
                Node child = row.get(i);
                if (child.state == UP) {
                    count += child.perish(journal);
                }
            }
            state = DOWN;
            journal.tell(TOLD_KILLED, number, 0);
            return count;
        }

        int vanish() {
            state = GONE;
            int count = 1;
            for (int i = 0; i < row.size(); i++) {
                count += row.get(i).vanish();
            }
            return count;
        }

        int placeOf(Node child) {
            for (int i = 0; i < row.size(); i++) {
                if (row.get(i) == child) {
                    return i;
                }
            }
            return NONE;
        }

        int recentRestarts(int time) {
            return restarts.notBefore(time - t);
        }

        void giveUp(Journal journal) {
            journal.tell(TOLD_GAVE_UP, number, 0);
            fallAll(journal);
            state = DOWN;
        }

        /** Stops a child while this keeper stays up: only then is a TEMPORARY one gone by it. */
        void release(Node child, Journal journal) {
            child.fall(journal);
            if (child.kind == TEMPORARY) {
                dismiss(child, journal);
            }
        }

        /** Takes a child out of the row for ever: how many nodes are gone. */
        int dismiss(Node child, Journal journal) {
            int place = placeOf(child);
            if (place >= 0 && place < row.size()) {
                row.remove(place);
            }
            journal.tell(TOLD_GONE, child.number, 0);
            return child.vanish();
        }

        /** Stops those that are up, from a place of the row on, while this keeper stays up. */
        void releaseFrom(int from, Journal journal) {
            for (int i = row.size() - 1; i >= 0 && i >= from; i--) {
                Node child = row.get(i);
                if (child.state == UP) {
                    release(child, journal);
                }
            }
        }

        /** Starts the row from a place on, as far as the first one that FAILED: that one, or null. */
        Node riseFrom(int from, Journal journal) {
            for (int i = Math.max(0, from); i < row.size(); i++) {
                Node child = row.get(i);
                if (!child.rise(journal)) {
                    return child;
                }
            }
            return null;
        }

        private void fallAll(Journal journal) {
            for (int i = row.size() - 1; i >= 0; i--) {
                Node child = row.get(i);
                if (child.state == UP) {
                    child.fall(journal);
                }
            }
        }
    }
}
