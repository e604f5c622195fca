/**
 * The boundary cases that the document's sentences name, each with a test of its own: nothing there,
 * as much as there may be, and the step from one side to the other. What is refused is in NumbersTest.
 */
public final class EdgesTest extends Checks {
    public static void main(String[] args) {
        nodes();
        rowsAndDepth();
        gone();
        starting();
        stopping();
        endsByKindAndReason();
        restarting();
        strategies();
        failedInRestarts();
        givingUp();
        events();
        promises();
        fiveHundredAndTwelveCalls();
        closeTest();
    }

    // ---- NODES are 0 .. 79

    private static void nodes() {
        eightyNodes();
        theEightiethMayBeAKeeper();
        theEightiethMayFail();
        goneNodesLeaveNoRoom();
    }

    private static void eightyNodes() {
        subject("NODES are 0 .. 79");
        Tree x = new Tree();
        x.first(ALL, 50, 5);
        for (int node = 1; node < 80; node++) {
            due("number of the next one", worker(x, 0, PERMANENT), node);
        }
        due("made", x.total(1), 80);
        due("in the row", x.about(0, 5), 79);
        due("the last of the row", x.child(0, 78), 79);
        due("behind it", x.child(0, 79), NONE);
        due("begin", x.begin(), true);
        due("up", x.total(2), 80);
        x.ends(79, 2);
        due("all are started again", x.total(4), 80 + 1 + 78 + 79);
        due("killed", x.kill(0), 80);
        due("up then", x.total(2), 0);
        refuses(x, STATE, "an 81st worker", () -> worker(x, 0, PERMANENT));
        refuses(x, STATE, "an 81st keeper", () -> keeper(x, 0, PERMANENT));
    }

    private static void theEightiethMayBeAKeeper() {
        subject("keeper: there were 80");
        Tree x = new Tree();
        for (int node = 1; node < 79; node++) {
            worker(x, 0, PERMANENT);
        }
        due("with 79 there is room", keeper(x, 0, PERMANENT), 79);
        refuses(x, STATE, "below it there is none", () -> worker(x, 79, PERMANENT));
        refuses(x, STATE, "nor for a keeper", () -> keeper(x, 79, PERMANENT));
    }

    private static void theEightiethMayFail() {
        subject("worker: NONE if it FAILED (it is gone then)");
        Tree x = new Tree();
        for (int node = 1; node < 79; node++) {
            worker(x, 0, PERMANENT);
        }
        x.begin();
        due("the 80th FAILED", x.worker(0, PERMANENT, 1, 0, 0, 1), NONE);
        due("it was made", x.total(1), 80);
        due("it is gone", x.state(79), GONE);
        refuses(x, STATE, "there were 80", () -> worker(x, 0, PERMANENT));
    }

    private static void goneNodesLeaveNoRoom() {
        subject("worker: there were 80");
        Tree x = new Tree();
        keeper(x, 0, PERMANENT);
        for (int node = 2; node < 80; node++) {
            worker(x, 1, PERMANENT);
        }
        due("gone", x.remove(1), 79);
        due("an empty row", x.about(0, 5), 0);
        refuses(x, STATE, "a worker", () -> worker(x, 0, PERMANENT));
        refuses(x, STATE, "a keeper", () -> keeper(x, 0, PERMANENT));
        due("begin", x.begin(), true);
        due("up", x.total(2), 1);
    }

    // ---- rows and depth

    private static void rowsAndDepth() {
        lastOfItsRow();
        depthEight(false);
        depthEight(true);
    }

    private static void lastOfItsRow() {
        subject("a child is the last of its row when it is made");
        Tree x = new Tree();
        keeper(x, 0, PERMANENT);
        due("the first of an empty row", x.about(1, 1), 0);
        worker(x, 0, PERMANENT);
        worker(x, 1, PERMANENT);
        due("behind another", x.about(2, 1), 1);
        due("in a row of its own", x.about(3, 1), 0);
        x.remove(1);
        due("the next moves up", x.about(2, 1), 0);
        worker(x, 0, PERMANENT);
        dueRow("the row", row(x, 0), 2, 4);
    }

    private static void depthEight(boolean up) {
        subject("0 has depth 0, a child one more than its keeper, 8 at most");
        Tree x = new Tree();
        if (up) {
            x.begin();
        }
        for (int depth = 1; depth <= 7; depth++) {
            due("depth of a keeper's child", x.about(keeper(x, depth - 1, PERMANENT), 2), depth);
        }
        due("a keeper at depth 8", x.about(keeper(x, 7, PERMANENT), 2), 8);
        due("a worker at depth 8", x.about(worker(x, 7, PERMANENT), 2), 8);
        refuses(x, STATE, "a keeper at depth 9", () -> keeper(x, 8, PERMANENT));
        refuses(x, STATE, "a worker at depth 9", () -> worker(x, 8, PERMANENT));
        due("begin", up || x.begin(), true);
        due("all up", x.total(2), 10);
        due("killed from the top", x.kill(0), 10);
        dueEvents("the last of each row first", x, 10, "K9@0 K8@0 K7@0 K6@0 K5@0 K4@0 K3@0 K2@0 K1@0 K0@0");
        due("removed from the top", x.remove(1), 9);
        due("the deepest is gone", x.state(9), GONE);
    }

    // ---- GONE (out of its keeper's row, for ever, and all below it)

    private static void gone() {
        goneFromTheRow();
        goneOnesAreNotStarted();
        goneOnesAreNotCountedTwice();
    }

    private static void goneFromTheRow() {
        subject("GONE: out of its keeper's row");
        int[][] left = {{2, 3}, {1, 3}, {1, 2}};
        for (int node = 1; node <= 3; node++) {
            Tree x = workersUp(ONE, 3);
            x.stop(node);
            due("removed", x.remove(node), 1);
            dueRow("without " + node, row(x, 0), left[node - 1]);
            due("state", x.state(node), GONE);
            due("a new one has a new number", worker(x, 0, PERMANENT), 4);
        }
        Tree only = workersUp(ONE, 1);
        only.stop(1);
        only.remove(1);
        due("a row of one is empty then", only.about(0, 5), 0);
        due("nothing in it", only.child(0, 0), NONE);
    }

    private static void goneOnesAreNotStarted() {
        subject("GONE: for ever, and all below it");
        Tree x = new Tree();
        x.first(ALL, 9, 9);
        worker(x, 0, PERMANENT);
        keeper(x, 0, PERMANENT);
        keeper(x, 2, PERMANENT);
        worker(x, 3, PERMANENT);
        x.remove(2);
        for (int node = 2; node <= 4; node++) {
            due("state of " + node, x.state(node), GONE);
        }
        x.begin();
        x.ends(1, 2);
        dueEvents("topmost node alone is told", x, 0, "X2@0 U1@0 U0@0 E1:2@0 U1@0");
        due("gone", x.total(3), 3);
    }

    private static void goneOnesAreNotCountedTwice() {
        subject("remove: how many nodes that are");
        Tree x = new Tree();
        keeper(x, 0, PERMANENT);
        due("an empty keeper", x.remove(1), 1);
        keeper(x, 0, PERMANENT);
        worker(x, 2, PERMANENT);
        worker(x, 2, PERMANENT);
        due("a worker", x.remove(3), 1);
        due("a keeper whose one child is gone already", x.remove(2), 2);
        due("gone in all", x.total(3), 4);
        dueEvents("told", x, 0, "X1@0 X3@0 X2@0");
    }

    // ---- STARTING

    private static void starting() {
        startUnits();
        startsThatFail();
        emptyKeeperIsStarted();
        firstOrLastChildFails();
        countIsEmptyAtTheStart();
    }

    private static void startUnits() {
        subject("STARTING a worker: its START units pass");
        for (int units : new int[] {0, 1, 100}) {
            Tree x = new Tree();
            x.worker(0, PERMANENT, 1, units, 0, 1);
            due("with a start that is to fail", x.begin(), false);
            dueEvents("FAILED after " + units, x, 0, "F1@" + units + " F0@" + units);
            due("without", x.begin(), true);
            dueEvents("up after " + units, x, 2, "U1@" + 2 * units + " U0@" + 2 * units);
            due("TIME", x.total(0), 2 * units);
        }
    }

    private static void startsThatFail() {
        subject("if starts of it are to fail, that is one less");
        for (int failures : new int[] {0, 1, 2, 49, 50}) {
            Tree x = new Tree();
            x.worker(0, PERMANENT, 1, 0, 0, failures);
            for (int left = failures; left > 0; left--) {
                due("to fail", x.about(1, 7), left);
                due("begin with " + left + " to fail", x.begin(), false);
            }
            due("none to fail", x.about(1, 7), 0);
            due("begin", x.begin(), true);
            due("no less than none", x.about(1, 7), 0);
        }
    }

    private static void emptyKeeperIsStarted() {
        subject("STARTING a keeper without children");
        Tree x = new Tree();
        due("begin", x.begin(), true);
        keeper(x, 0, PERMANENT);
        x.stop(1);
        due("again", x.again(1), true);
        x.kill(1);
        dueEvents("told", x, 0, "U0@0 U1@0 S1@0 U1@0 K1@0 U1@0");
    }

    private static void firstOrLastChildFails() {
        subject("if one FAILED, those that are up are stopped, the last one first, and it has FAILED");
        String[] told = {"F1@0 F0@0", "U1@0 F2@0 S1@0 F0@0", "U1@0 U2@0 F3@0 S2@0 S1@0 F0@0"};
        for (int node = 1; node <= 3; node++) {
            Tree x = new Tree();
            for (int i = 0; i < 3; i++) {
                worker(x, 0, TEMPORARY);
            }
            x.failing(node, 1);
            due("begin", x.begin(), false);
            dueEvents(node + " of 3 FAILED", x, 0, told[node - 1]);
            due("it is down", x.state(0), DOWN);
            due("none is up", x.total(2), 0);
            dueRow("the row stays", row(x, 0), 1, 2, 3);
        }
    }

    private static void countIsEmptyAtTheStart() {
        subject("STARTING a keeper: its count of restarts is empty");
        Tree x = new Tree();
        x.first(ONE, 50, 1000);
        x.keeper(0, TRANSIENT, ONE, 1, 1000);
        worker(x, 1, PERMANENT);
        x.begin();
        for (int start = 0; start < 3; start++) {
            due("empty", x.about(1, 6), 0);
            x.ends(2, 2);
            due("one", x.about(1, 6), 1);
            x.stop(1);
            due("still one, as it is down", x.about(1, 6), 1);
            x.again(1);
        }
        due("it never gave up", x.total(6), 0);
        due("in all", x.total(5), 3);
    }

    // ---- STOPPING

    private static void stopping() {
        patienceAndStopUnits();
        emptyKeeperIsStopped();
        childrenThatAreDownStaySo();
        temporaryChildrenOfAKeeperThatIsDown();
    }

    private static void patienceAndStopUnits() {
        subject("STOPPING a worker: patience 0, no more than its patience, NONE has no end");
        int[][] cases = {
            {0, 0}, {0, 1}, {0, 100}, {1, 0}, {1, 1}, {1, 2}, {99, 100}, {100, 100}, {100, 99},
            {1000, 0}, {1000, 100}, {NONE, 0}, {NONE, 1}, {NONE, 100},
        };
        String[] told = {
            "K2@0", "K2@0", "K2@0", "S2@0", "S2@1", "K2@1", "K2@99", "S2@100", "S2@99",
            "S2@0", "S2@100", "S2@0", "S2@1", "S2@100",
        };
        for (int i = 0; i < cases.length; i++) {
            String which = "patience " + cases[i][0] + ", stop " + cases[i][1];
            String time = told[i].substring(told[i].indexOf('@'));
            Tree x = patient(cases[i][0], cases[i][1]);
            x.stop(2);
            dueEvents(which + ", alone", x, 3, told[i]);
            due(which + ", it is down", x.state(2), DOWN);
            Tree y = patient(cases[i][0], cases[i][1]);
            y.stop(1);
            dueEvents(which + ", with its keeper", y, 3, told[i] + " S1" + time);
            Tree z = patient(cases[i][0], cases[i][1]);
            due(which + ", killed", z.kill(2), 1);
            dueEvents(which + ", killed", z, 3, "K2@0 U2@0");
        }
    }

    /** Keeper 1 of 0 and its worker 2, up at TIME 0. */
    private static Tree patient(int patience, int stop) {
        Tree x = new Tree();
        keeper(x, 0, PERMANENT);
        x.worker(1, PERMANENT, patience, 0, stop, 0);
        x.begin();
        return x;
    }

    private static void emptyKeeperIsStopped() {
        subject("STOPPING a keeper without children");
        Tree x = new Tree();
        keeper(x, 0, PERMANENT);
        keeper(x, 0, TEMPORARY);
        x.begin();
        x.stop(1);
        x.stop(2);
        dueEvents("told", x, 3, "S1@0 S2@0 X2@0");
        due("permanent", x.state(1), DOWN);
        due("temporary", x.state(2), GONE);
    }

    private static void childrenThatAreDownStaySo() {
        subject("STOPPING a keeper: children that are down stay so");
        Tree x = new Tree();
        keeper(x, 0, PERMANENT);
        for (int i = 0; i < 3; i++) {
            x.worker(1, TRANSIENT, 5, 0, 1, 0);
        }
        x.begin();
        x.ends(2, 0);
        x.ends(4, 1);
        x.stop(1);
        dueEvents("one is up", x, 7, "S3@1 S1@1");
        x.again(1);
        x.ends(2, 0);
        x.ends(3, 0);
        x.ends(4, 0);
        x.stop(1);
        dueEvents("none is up", x, 9, "U2@1 U3@1 U4@1 U1@1 E2:0@1 E3:0@1 E4:0@1 S1@1");
        dueRow("the row stays", row(x, 1), 2, 3, 4);
    }

    private static void temporaryChildrenOfAKeeperThatIsDown() {
        subject("When a keeper is down, its TEMPORARY children stay in its row, down");
        String[] told = {
            "S3@0 S2@0 S1@0 U2@0 U3@0 U1@0",
            "K3@0 K2@0 K1@0 U2@0 U3@0 U1@0",
            "E3:2@0 G1@0 S2@0 U2@0 U3@0 U1@0",
        };
        for (int way = 0; way < 3; way++) {
            Tree x = new Tree();
            x.keeper(0, way == 1 ? PERMANENT : TRANSIENT, ONE, 0, 5);
            worker(x, 1, TEMPORARY);
            worker(x, 1, PERMANENT);
            x.begin();
            if (way == 0) {
                x.stop(1);
            } else if (way == 1) {
                x.kill(1);
            } else {
                x.ends(3, 2);
            }
            dueRow("the row", row(x, 1), 2, 3);
            if (way != 1) {
                due("down", x.state(2), DOWN);
                x.again(1);
            }
            due("up with its keeper", x.state(2), UP);
            dueEvents("way " + way, x, 4, told[way]);
            due("none is gone", x.total(3), 0);
        }
    }

    // ---- AN END of a child, with a REASON (0 normal, 1 shutdown, 2 to 9 others)

    private static void endsByKindAndReason() {
        subject("a TRANSIENT one with reason 0 or 1 stays down");
        for (int reason : new int[] {0, 1, 2, 9}) {
            int[] states = {UP, reason <= 1 ? DOWN : UP, GONE};
            for (int kind = PERMANENT; kind <= TEMPORARY; kind++) {
                Tree x = new Tree();
                worker(x, 0, kind);
                x.begin();
                x.ends(1, reason);
                due("kind " + kind + ", reason " + reason, x.state(1), states[kind]);
                due("counted, kind " + kind + ", reason " + reason, x.total(5), states[kind] == UP ? 1 : 0);
            }
        }
    }

    // ---- RESTARTING: more than r, not before TIME - t

    private static void restarting() {
        moreThanR();
        notBeforeTimeLessT();
        countedBeforeUnitsPass();
        countedAgainWhenOneFailed();
    }

    private static void moreThanR() {
        subject("If more than r of those counted are not before TIME - t");
        for (int r : new int[] {0, 1, 2, 49, 50}) {
            Tree x = new Tree();
            x.first(ONE, 50, 1000);
            x.keeper(0, TRANSIENT, ONE, r, 1000);
            worker(x, 0, PERMANENT);
            worker(x, 1, PERMANENT);
            x.begin();
            for (int i = 1; i <= r; i++) {
                x.ends(3, 2);
                due("counted, r " + r, x.about(1, 6), i);
                due("up after " + i + ", r " + r, x.state(1), UP);
            }
            x.ends(3, 2);
            due("one more, r " + r, x.state(1), DOWN);
            due("that is counted too, r " + r, x.about(1, 6), r + 1);
            due("gave up, r " + r, x.total(6), 1);
            Tree top = workersUp(ONE, 1);
            top.kill(0);
            top.first(ONE, r, 1000);
            top.begin();
            for (int i = 1; i <= r; i++) {
                top.ends(1, 2);
            }
            due("0 is up, r " + r, top.state(0), UP);
            top.ends(1, 2);
            due("0 is down, r " + r, top.state(0), DOWN);
        }
    }

    private static void notBeforeTimeLessT() {
        subject("not before TIME - t");
        for (int t : new int[] {1, 2, 5, 999, 1000}) {
            for (int later = t - 1; later <= t + 1; later++) {
                Tree x = new Tree();
                x.first(ONE, 1, t);
                x.keeper(0, TRANSIENT, ONE, 1, t);
                worker(x, 1, PERMANENT);
                worker(x, 0, PERMANENT);
                x.begin();
                x.ends(2, 2);
                x.ends(3, 2);
                x.pass(later);
                boolean counts = later <= t;
                String which = "t " + t + ", " + later + " later, of ";
                due(which + "a keeper", x.about(1, 6), counts ? 1 : 0);
                due(which + "0", x.about(0, 6), counts ? 1 : 0);
                x.ends(2, 2);
                due(which + "a keeper, its state", x.state(1), counts ? DOWN : UP);
                x.ends(3, 2);
                due(which + "0, its state", x.state(0), counts ? DOWN : UP);
            }
        }
    }

    private static void countedBeforeUnitsPass() {
        subject("the keeper counts it, by TIME");
        for (int strategy = ONE; strategy <= REST; strategy++) {
            for (int later = 0; later <= 1; later++) {
                Tree x = new Tree();
                x.first(strategy, 1, 20);
                x.worker(0, PERMANENT, 9, 3, 4, 0);
                x.worker(0, PERMANENT, 9, 3, 4, 0);
                x.begin();
                x.ends(1, 2);
                int passed = x.total(0) - 6;
                due("units of a restart, strategy " + strategy, passed, strategy == ONE ? 3 : 10);
                x.pass(20 - passed + later);
                x.ends(1, 2);
                due("from the END on, strategy " + strategy, x.state(0), later == 0 ? DOWN : UP);
            }
        }
    }

    private static void countedAgainWhenOneFailed() {
        subject("the one that FAILED is to be RESTARTED");
        for (int failures = 0; failures <= 4; failures++) {
            Tree x = workersUp(ONE, 1);
            x.kill(0);
            x.first(ONE, 3, 5);
            x.begin();
            x.failing(1, failures);
            x.ends(1, 2);
            due("up with " + failures + " to fail, r 3", x.state(1), failures <= 2 ? UP : DOWN);
            due("its keeper", x.state(0), failures <= 2 ? UP : DOWN);
            due("counted", x.total(5), Math.min(4, failures + 1));
            due("left to fail", x.about(1, 7), Math.max(0, failures - 3));
        }
        Tree most = workersUp(ONE, 1);
        most.kill(0);
        most.first(ONE, 50, 1);
        most.begin();
        most.failing(1, 50);
        most.ends(1, 2);
        due("51 at one TIME, r 50", most.state(0), DOWN);
        due("50 have FAILED", most.about(1, 7), 0);
    }

    // ---- ONE, ALL, REST

    private static void strategies() {
        rowOfOne();
        endsOfARow();
        othersThatAreDown();
        temporaryOnesInARow();
    }

    private static void rowOfOne() {
        subject("RESTARTING the only child");
        for (int strategy = ONE; strategy <= REST; strategy++) {
            Tree x = workersUp(strategy, 1);
            x.ends(1, 2);
            dueEvents("strategy " + strategy, x, 2, "E1:2@0 U1@0");
        }
    }

    private static void endsOfARow() {
        subject("RESTARTING the first, the middle and the last child");
        String[][] told = {
            {"E1:2@0 U1@0", "E2:2@0 U2@0", "E3:2@0 U3@0"},
            {
                "E1:2@0 S3@0 S2@0 U1@0 U2@0 U3@0",
                "E2:2@0 S3@0 S1@0 U1@0 U2@0 U3@0",
                "E3:2@0 S2@0 S1@0 U1@0 U2@0 U3@0",
            },
            {"E1:2@0 S3@0 S2@0 U1@0 U2@0 U3@0", "E2:2@0 S3@0 U2@0 U3@0", "E3:2@0 U3@0"},
        };
        for (int strategy = ONE; strategy <= REST; strategy++) {
            for (int node = 1; node <= 3; node++) {
                Tree x = workersUp(strategy, 3);
                x.ends(node, 2);
                dueEvents("strategy " + strategy + ", " + node + " of 3", x, 4, told[strategy][node - 1]);
            }
        }
    }

    private static void othersThatAreDown() {
        subject("all children in its row are started; REST: only of the child and those behind it");
        String[] told = {"E2:2@0 U2@0", "E2:2@0 U1@0 U2@0 U3@0", "E2:2@0 U2@0 U3@0"};
        for (int strategy = ONE; strategy <= REST; strategy++) {
            Tree x = workersUp(strategy, 3);
            x.stop(1);
            x.stop(3);
            x.ends(2, 2);
            dueEvents("none of the others is up, strategy " + strategy, x, 6, told[strategy]);
        }
    }

    private static void temporaryOnesInARow() {
        subject("TEMPORARY ones are gone by that");
        int[][] left = {{1, 2, 3}, {2}, {1, 2}};
        for (int strategy = ONE; strategy <= REST; strategy++) {
            Tree x = new Tree();
            x.first(strategy, 9, 9);
            worker(x, 0, TEMPORARY);
            worker(x, 0, PERMANENT);
            keeper(x, 0, TEMPORARY);
            worker(x, 3, PERMANENT);
            x.begin();
            x.ends(2, 2);
            dueRow("strategy " + strategy, row(x, 0), left[strategy]);
            due("below one that is gone", x.state(4), strategy == ONE ? UP : GONE);
            x.ends(2, 2);
            due("without them", x.state(2), UP);
        }
    }

    // ---- If one FAILED, those before it stay up, none behind it is started

    private static void failedInRestarts() {
        subject("If one FAILED, those before it stay up, none behind it is started");
        String[][] told = {
            {
                "E2:2@0 S3@0 S1@0 F1@0 U1@0 U2@0 U3@0",
                "E2:2@0 S3@0 S1@0 U1@0 F2@0 S1@0 U1@0 U2@0 U3@0",
                "E2:2@0 S3@0 S1@0 U1@0 U2@0 F3@0 S2@0 S1@0 U1@0 U2@0 U3@0",
            },
            {
                "E2:2@0 S3@0 U2@0 U3@0",
                "E2:2@0 S3@0 F2@0 U2@0 U3@0",
                "E2:2@0 S3@0 U2@0 F3@0 U3@0",
            },
        };
        for (int strategy = ALL; strategy <= REST; strategy++) {
            for (int node = 1; node <= 3; node++) {
                Tree x = workersUp(strategy, 3);
                x.failing(node, 1);
                x.ends(2, 2);
                dueEvents("strategy " + strategy + ", " + node + " of 3", x, 4, told[strategy - 1][node - 1]);
                boolean reached = strategy == ALL || node >= 2;
                due("counted", x.total(5), reached ? 2 : 1);
            }
        }
        failedAndTooOften();
        failedKeeperInARestart();
    }

    private static void failedAndTooOften() {
        String[] told = {
            "E2:2@0 F2@0 G0@0 S3@0 S1@0",
            "E2:2@0 S3@0 S1@0 U1@0 F2@0 G0@0 S1@0",
            "E2:2@0 S3@0 F2@0 G0@0 S1@0",
        };
        for (int strategy = ONE; strategy <= REST; strategy++) {
            Tree x = workersUp(strategy, 3);
            x.kill(0);
            x.first(strategy, 1, 5);
            x.begin();
            int from = x.total(4);
            x.failing(2, 1);
            x.ends(2, 2);
            dueEvents("with r 1, strategy " + strategy, x, from, told[strategy]);
            due("down", x.total(2), 0);
        }
    }

    private static void failedKeeperInARestart() {
        Tree x = new Tree();
        x.first(REST, 2, 5);
        worker(x, 0, PERMANENT);
        keeper(x, 0, TRANSIENT);
        worker(x, 2, TRANSIENT);
        worker(x, 2, TEMPORARY);
        worker(x, 0, TRANSIENT);
        x.begin();
        x.failing(4, 1);
        x.ends(1, 2);
        dueEvents("a keeper FAILED", x, 6,
                "E1:2@0 S5@0 S4@0 S3@0 S2@0 U1@0 U3@0 F4@0 S3@0 F2@0 U3@0 U4@0 U2@0 U5@0");
        due("counted by 0", x.about(0, 6), 2);
        due("counted by the keeper", x.about(2, 6), 0);
    }

    // ---- GIVING UP

    private static void givingUp() {
        nothingIsUpToBeStopped();
        keeperZeroGivesUp();
        aKeeperGivesUpByItsKind();
        fromDepthEight();
    }

    private static void nothingIsUpToBeStopped() {
        subject("GIVING UP with no child up");
        Tree x = new Tree();
        x.first(ONE, 0, 1);
        worker(x, 0, PERMANENT);
        worker(x, 0, TRANSIENT);
        x.begin();
        x.ends(2, 1);
        x.ends(1, 0);
        dueEvents("told", x, 3, "E2:1@0 E1:0@0 G0@0");
        dueRow("totals", totals(x), 0, 3, 0, 0, 6, 1, 1);
    }

    private static void keeperZeroGivesUp() {
        subject("GIVING UP: of 0, which has no keeper: it is down");
        Tree x = new Tree();
        x.first(ONE, 0, 1);
        for (int i = 0; i < 3; i++) {
            x.worker(0, i, 9, 0, 2, 0);
        }
        x.begin();
        x.ends(1, 2);
        dueEvents("told before its children are stopped", x, 4, "E1:2@0 G0@0 S3@2 S2@4");
        due("down", x.state(0), DOWN);
        dueRow("its row stays", row(x, 0), 1, 2, 3);
        x.first(ONE, 1, 1);
        due("begin", x.begin(), true);
        due("its count is empty", x.about(0, 6), 0);
        due("all up", x.total(2), 4);
    }

    private static void aKeeperGivesUpByItsKind() {
        subject("GIVING UP is an END of it with reason 1");
        int[] states = {UP, DOWN, GONE};
        int[] counted = {1, 0, 0};
        String[] told = {"E2:9@0 G1@0 U2@0 U1@0", "E2:9@0 G1@0", "E2:9@0 G1@0 X1@0"};
        for (int kind = PERMANENT; kind <= TEMPORARY; kind++) {
            Tree x = new Tree();
            x.keeper(0, kind, ALL, 0, 5);
            worker(x, 1, PERMANENT);
            x.begin();
            x.ends(2, 9);
            dueEvents("kind " + kind, x, 3, told[kind]);
            due("its state, kind " + kind, x.state(1), states[kind]);
            due("below it, kind " + kind, x.state(2), states[kind]);
            due("counted by 0, kind " + kind, x.about(0, 6), counted[kind]);
            due("0 is up, kind " + kind, x.state(0), UP);
        }
    }

    private static void fromDepthEight() {
        subject("GIVING UP from depth 8 to 0");
        Tree x = new Tree();
        x.first(ONE, 0, 1);
        for (int node = 1; node <= 7; node++) {
            x.keeper(node - 1, PERMANENT, node % 3, 0, 1);
        }
        worker(x, 7, TRANSIENT);
        x.begin();
        x.kill(8);
        dueEvents("each keeper once", x, 9, "K8@0 G7@0 G6@0 G5@0 G4@0 G3@0 G2@0 G1@0 G0@0");
        dueRow("totals", totals(x), 0, 9, 0, 0, 18, 8, 8);
    }

    // ---- EVENTS

    private static void events() {
        firstSixHundredEvents();
        reasonsOfEvents();
    }

    private static void firstSixHundredEvents() {
        subject("Of event i (the first 600)");
        Tree x = workersUp(ONE, 74);
        for (int i = 0; i < 3; i++) {
            x.kill(0);
            x.begin();
        }
        x.kill(0);
        due("events", x.total(4), 600);
        dueRow("the first", eventRow(x, 0), 1, 1, 0, 0);
        dueRow("the 599th", eventRow(x, 598), 4, 1, 0, 0);
        dueRow("the 600th", eventRow(x, 599), 4, 0, 0, 0);
        dueRow("none yet", eventRow(x, 600), NONE, NONE, NONE, NONE);
        x.begin();
        due("all is done as before", x.total(2), 75);
        dueRow("the 600th stays", eventRow(x, 599), 4, 0, 0, 0);
        dueRow("the 601st is not told", eventRow(x, 600), NONE, NONE, NONE, NONE);
        due("events then", x.total(4), 675);
    }

    private static void reasonsOfEvents() {
        subject("of an END its reason (3; 0 of others)");
        for (int reason = 0; reason <= 9; reason++) {
            Tree x = workersUp(ONE, 1);
            x.ends(1, reason);
            dueRow("END", eventRow(x, 2), 5, 1, 0, reason);
            dueRow("up", eventRow(x, 3), 1, 1, 0, 0);
        }
        Tree x = new Tree();
        x.first(ONE, 0, 1);
        worker(x, 0, TEMPORARY);
        worker(x, 0, PERMANENT);
        x.begin();
        x.kill(1);
        x.kill(2);
        dueRow("killed", eventRow(x, 3), 4, 1, 0, 0);
        dueRow("gone", eventRow(x, 4), 7, 1, 0, 0);
        dueRow("gave up", eventRow(x, 6), 6, 0, 0, 0);
    }

    // ---- what single promises name

    private static void promises() {
        newObject();
        firstWhileDown();
        startedAtOnce();
        failingAnswersWhatWas();
        beginWithoutAndAfter();
        killCountsWhatIsUp();
        stopLeavesTheKeeperAlone();
        againThatFails();
        passOfNothingAndMost();
        aboutZero();
    }

    private static void newObject() {
        subject("KeeperTree(): Keeper 0 alone, down: strategy ONE, r 1, t 5");
        dueRow("totals", totals(new Tree()), 0, 1, 0, 0, 0, 0, 0);
        due("state", new Tree().state(0), DOWN);
        for (int later = 5; later <= 6; later++) {
            Tree x = new Tree();
            worker(x, 0, PERMANENT);
            worker(x, 0, PERMANENT);
            x.begin();
            x.ends(1, 2);
            dueEvents("ONE", x, 3, "E1:2@0 U1@0");
            x.pass(later);
            x.ends(1, 2);
            due("r 1, t 5, " + later + " later", x.state(0), later == 5 ? DOWN : UP);
        }
    }

    private static void firstWhileDown() {
        subject("first: IllegalStateException: it is up");
        Tree x = workersUp(ONE, 1);
        refuses(x, STATE, "up by begin", () -> x.first(ALL, 0, 1));
        x.kill(0);
        x.first(ONE, 0, 1);
        x.failing(1, 1);
        x.begin();
        x.first(ONE, 0, 2);
        x.begin();
        refuses(x, STATE, "up once more", () -> x.first(ALL, 0, 1));
        x.ends(1, 2);
        x.first(ONE, 50, 1000);
        due("it gave up between", x.total(6), 1);
    }

    private static void startedAtOnce() {
        subject("If its keeper is up it is started at once");
        Tree x = new Tree();
        due("a keeper of one that is down", keeper(x, 0, PERMANENT), 1);
        due("a worker that would fail, of one that is down", x.worker(1, TEMPORARY, 1, 7, 0, 50), 2);
        dueRow("totals", totals(x), 0, 3, 0, 0, 0, 0, 0);
        x.failing(2, 0);
        x.begin();
        x.stop(1);
        int from = x.total(4);
        due("its keeper is down, though 0 is up", x.worker(1, PERMANENT, 1, 7, 0, 1), 3);
        due("a keeper there", keeper(x, 1, PERMANENT), 4);
        dueEvents("nothing is told", x, from, "");
        due("of one that is up, none to fail", x.worker(0, PERMANENT, 1, 7, 0, 0), 5);
        due("of one that is up, one to fail", x.worker(0, PERMANENT, 1, 7, 0, 1), NONE);
        due("a keeper of one that is up", keeper(x, 0, TEMPORARY), 7);
        dueEvents("told", x, from, "U5@14 F6@21 X6@21 U7@21");
        due("it is not restarted", x.total(5), 0);
        dueRow("the row", row(x, 0), 1, 5, 7);
    }

    private static void failingAnswersWhatWas() {
        subject("failing: how many were to");
        Tree x = workersUp(ONE, 1);
        due("none", x.failing(1, 50), 0);
        due("50", x.failing(1, 50), 50);
        due("50 still", x.failing(1, 0), 50);
        due("none again", x.failing(1, 0), 0);
        x.ends(1, 2);
        due("its next start does not fail", x.state(1), UP);
        due("nothing is told", x.total(4), 4);
    }

    private static void beginWithoutAndAfter() {
        subject("begin: whether it is up then");
        Tree x = new Tree();
        due("with no child", x.begin(), true);
        refuses(x, STATE, "it is up", () -> x.begin());
        due("kill(0)", x.kill(0), 1);
        due("after kill", x.begin(), true);
        x.worker(0, PERMANENT, 1, 0, 0, 0);
        x.failing(1, 1);
        x.kill(0);
        due("with one to fail", x.begin(), false);
        due("after that", x.begin(), true);
    }

    private static void killCountsWhatIsUp() {
        subject("kill: How many were killed");
        Tree x = new Tree();
        x.first(ONE, 9, 9);
        keeper(x, 0, PERMANENT);
        keeper(x, 0, PERMANENT);
        x.worker(2, TRANSIENT, NONE, 0, 100, 0);
        x.worker(2, PERMANENT, NONE, 0, 100, 0);
        x.begin();
        due("a keeper without children", x.kill(1), 1);
        due("with two", x.kill(2), 3);
        x.stop(4);
        due("TIME by stop", x.total(0), 100);
        due("with one of two up", x.kill(2), 2);
        x.ends(3, 0);
        x.stop(4);
        due("with none of two up", x.kill(2), 1);
        due("they are started again with it", x.state(3) + x.state(4), 2);
        due("0 and all below", x.kill(0), 5);
        due("0 stays down", x.state(0), DOWN);
        due("at once", x.total(0), 200);
    }

    private static void stopLeavesTheKeeperAlone() {
        subject("stop: A child that is up is stopped, and stays down (a TEMPORARY one is gone)");
        for (int kind = PERMANENT; kind <= TEMPORARY; kind++) {
            Tree x = new Tree();
            x.first(ALL, 0, 1);
            worker(x, 0, kind);
            x.keeper(0, kind, ONE, 0, 1);
            worker(x, 0, PERMANENT);
            x.begin();
            x.stop(1);
            x.stop(2);
            int left = kind == TEMPORARY ? GONE : DOWN;
            due("a worker, kind " + kind, x.state(1), left);
            due("a keeper, kind " + kind, x.state(2), left);
            due("nothing is counted, kind " + kind, x.total(5), 0);
            due("the others stay up, kind " + kind, x.total(2), 2);
        }
    }

    private static void againThatFails() {
        subject("again: A child that is down is started: whether it is up then");
        Tree x = workersUp(ALL, 2);
        x.stop(2);
        x.failing(2, 2);
        due("one to fail", x.again(2), false);
        due("another to fail", x.again(2), false);
        due("it stays in the row", x.about(2, 1), 1);
        due("none to fail", x.again(2), true);
        refuses(x, STATE, "it is up", () -> x.again(2));
        dueEvents("nothing else is done", x, 3, "S2@0 F2@0 F2@0 U2@0");
        due("nothing is counted", x.total(5), 0);
        x.kill(0);
        refuses(x, STATE, "its keeper is down", () -> x.again(2));
    }

    private static void passOfNothingAndMost() {
        subject("pass: So many units pass: TIME");
        Tree x = new Tree();
        due("pass(0)", x.pass(0), 0);
        due("pass(1)", x.pass(1), 1);
        due("pass(10000)", x.pass(10000), 10001);
        for (int i = 0; i < 500; i++) {
            x.pass(10000);
        }
        due("total(0)", x.total(0), 5010001);
        due("nothing is told", x.total(4), 0);
    }

    private static void aboutZero() {
        subject("about: NONE of 0, 0 of 0, NONE where it is not of that sort");
        Tree x = workersUp(ONE, 1);
        dueRow("0", abouts(x, 0), NONE, 0, 0, 0, 1, 1, 0, NONE);
        dueRow("a worker", abouts(x, 1), 0, 0, 1, 0, 0, NONE, NONE, 0);
        keeper(x, 0, TEMPORARY);
        dueRow("a keeper", abouts(x, 2), 0, 1, 1, 2, 1, 0, 0, NONE);
    }

    // ---- at most 512 calls

    private static void fiveHundredAndTwelveCalls() {
        subject("An object is used for at most 512 calls");
        KeeperTree x = new KeeperTree();
        x.first(ALL, 50, 1);
        for (int node = 1; node <= 60; node++) {
            x.worker(0, PERMANENT, 1, 1, 0, 0);
        }
        x.begin();
        // Each pair of calls starts the whole row 51 times, which takes longer than t every time.
        for (int pair = 0; pair < 223; pair++) {
            x.failing(60, 50);
            x.ends(1, 2);
        }
        due("call 509: up", x.total(2), 61);
        due("call 510: counted in all", x.total(5), 223 * 51);
        due("call 511: gave up", x.total(6), 0);
        due("call 512: TIME", x.total(0), 60 + 223 * 51 * 60);
    }

    // ---- what the trees are made of

    private static int keeper(Tree x, int of, int kind) {
        return x.keeper(of, kind, ONE, 1, 5);
    }

    /** One that needs no time and has patience enough. */
    private static int worker(Tree x, int of, int kind) {
        return x.worker(of, kind, 1, 0, 0, 0);
    }

    /** So many permanent workers of keeper 0, which is up. */
    private static Tree workersUp(int strategy, int workers) {
        Tree x = new Tree();
        x.first(strategy, 9, 9);
        for (int i = 0; i < workers; i++) {
            worker(x, 0, PERMANENT);
        }
        x.begin();
        return x;
    }
}
