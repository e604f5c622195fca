/** At least one method for each promise of the document, with ordinary inputs and with wrong ones. */
public final class PromiseTest extends Checks {
    public static void main(String[] args) {
        subject("promise 1");
        newObject();
        newObjectsBounds();
        subject("promise 2");
        firstSetsStrategyAndBounds();
        firstKeepsWhatIsCounted();
        subject("promise 3");
        keepers();
        keepersStrategyAndBounds();
        subject("promise 4");
        workers();
        workerThatFailsAtOnceIsGone();
        subject("promise 5");
        failing();
        subject("promise 6");
        beginStartsInOrder();
        beginFails();
        beginEmptiesTheCount();
        subject("promise 7");
        endsByKindAndReason();
        endsWithStrategyOne();
        endsWithStrategyAll();
        endsWithStrategyRest();
        temporaryChildrenInRestarts();
        failuresInRestarts();
        countedByTime();
        givingUpClimbs();
        restartsOfAKeeper();
        subject("promise 8");
        kill();
        killBelowAndAbove();
        subject("promise 9");
        stopByPatience();
        stopOfAKeeper();
        subject("promise 10");
        again();
        subject("promise 11");
        remove();
        subject("promise 12");
        pass();
        subject("promise 13");
        state();
        subject("promise 14");
        about();
        subject("promise 15");
        child();
        subject("promise 16");
        event();
        onlySixHundredEventsAreKept();
        subject("promise 17");
        total();
        manyRestartsStayCounted();
        closeTest();
    }

    // ---- promise 1

    private static void newObject() {
        Tree x = new Tree();
        due("NONE", NONE, -1);
        due("state(0)", x.state(0), 0);
        dueRow("about 0", abouts(x, 0), NONE, 0, 0, 0, 1, 0, 0, NONE);
        dueRow("totals", totals(x), 0, 1, 0, 0, 0, 0, 0);
        due("child(0, 0)", x.child(0, 0), NONE);
    }

    private static void newObjectsBounds() {
        Tree x = new Tree();
        x.worker(0, PERMANENT, 0, 0, 0, 0);
        x.worker(0, PERMANENT, 0, 0, 0, 0);
        x.begin();
        x.ends(1, 2);
        dueEvents("strategy ONE", x, 3, "E1:2@0 U1@0");
        x.pass(6);
        x.ends(1, 2);
        due("after more than t", x.state(0), 1);
        x.pass(5);
        x.ends(1, 2);
        due("r 1 within t 5", x.state(0), 0);
    }

    // ---- promise 2

    private static void firstSetsStrategyAndBounds() {
        Tree x = new Tree();
        x.first(ALL, 0, 1);
        x.first(ONE, 50, 1000);
        x.first(REST, 1, 3);
        for (int i = 0; i < 3; i++) {
            x.worker(0, PERMANENT, 0, 0, 0, 0);
        }
        x.begin();
        x.ends(2, 2);
        dueEvents("REST", x, 4, "E2:2@0 K3@0 U2@0 U3@0");
        x.pass(4);
        x.ends(3, 2);
        due("t 3 is over", x.state(0), 1);
        x.ends(3, 2);
        due("r 1 is passed", x.state(0), 0);
        x.first(ALL, 0, 1);
        x.begin();
        x.ends(3, 2);
        dueEvents("r 0", x, x.total(4) - 4, "E3:2@4 G0@4 K2@4 K1@4");
    }

    private static void firstKeepsWhatIsCounted() {
        Tree x = new Tree();
        x.first(ONE, 50, 1);
        x.worker(0, PERMANENT, 0, 1, 0, 0);
        x.begin();
        for (int i = 0; i < 40; i++) {
            x.ends(1, 2);
            x.pass(10);
        }
        x.kill(0);
        due("with t 1", x.about(0, 6), 0);
        x.first(ONE, 50, 1000);
        due("with t 1000", x.about(0, 6), 40);
        x.first(ONE, 0, 11);
        due("with t 11", x.about(0, 6), 1);
        x.begin();
        due("started", x.about(0, 6), 0);
    }

    // ---- promise 3

    private static void keepers() {
        Tree x = new Tree();
        due("first keeper", x.keeper(0, TEMPORARY, ALL, 0, 1), 1);
        due("second keeper", x.keeper(1, TRANSIENT, REST, 50, 1000), 2);
        due("third keeper", x.keeper(0, PERMANENT, ONE, 1, 5), 3);
        due("down with its keeper", x.state(1), 0);
        dueRow("about 1", abouts(x, 1), 0, 0, 1, 2, 1, 1, 0, NONE);
        dueRow("about 2", abouts(x, 2), 1, 0, 2, 1, 1, 0, 0, NONE);
        dueRow("about 3", abouts(x, 3), 0, 1, 1, 0, 1, 0, 0, NONE);
        dueEvents("nothing is told", x, 0, "");
        x.begin();
        due("keeper of one that is up", x.keeper(2, PERMANENT, ONE, 1, 5), 4);
        dueEvents("started at once", x, 0, "U2@0 U1@0 U3@0 U0@0 U4@0");
        due("up at once", x.state(4), 1);
        x.stop(2);
        due("keeper of one that is down", x.keeper(2, PERMANENT, ONE, 1, 5), 5);
        due("stays down", x.state(5), 0);
    }

    private static void keepersStrategyAndBounds() {
        String[] told = {"E3:2@0 U3@0", "E3:2@0 K4@0 K2@0 U2@0 U3@0 U4@0", "E3:2@0 K4@0 U3@0 U4@0"};
        for (int strategy = 0; strategy <= 2; strategy++) {
            Tree x = new Tree();
            x.keeper(0, TRANSIENT, strategy, 1, 3);
            for (int i = 0; i < 3; i++) {
                x.worker(1, PERMANENT, 0, 0, 0, 0);
            }
            x.begin();
            x.ends(3, 2);
            dueEvents("strategy " + strategy, x, 5, told[strategy]);
            x.pass(4);
            x.ends(3, 2);
            due("t 3 is over", x.state(1), 1);
            x.pass(3);
            x.ends(3, 2);
            due("r 1 is passed", x.state(1), 0);
        }
    }

    // ---- promise 4

    private static void workers() {
        Tree x = new Tree();
        due("first worker", x.worker(0, PERMANENT, NONE, 0, 0, 0), 1);
        due("second worker", x.worker(0, TEMPORARY, 1000, 100, 100, 50), 2);
        dueRow("about 1", abouts(x, 1), 0, 0, 1, 0, 0, NONE, NONE, 0);
        dueRow("about 2", abouts(x, 2), 0, 1, 1, 2, 0, NONE, NONE, 50);
        due("down with its keeper", x.state(2), 0);
        due("no time has passed", x.total(0), 0);
        x.failing(2, 0);
        x.begin();
        due("worker of one that is up", x.worker(0, TRANSIENT, 0, 7, 0, 0), 3);
        dueEvents("started at once", x, 0, "U1@0 U2@100 U0@100 U3@107");
        due("up at once", x.state(3), 1);
    }

    private static void workerThatFailsAtOnceIsGone() {
        for (int kind = 0; kind <= 2; kind++) {
            Tree x = new Tree();
            x.begin();
            due("FAILED", x.worker(0, kind, 0, 3, 0, 2), NONE);
            dueEvents("failed and gone", x, 1, "F1@3 X1@3");
            due("gone", x.state(1), 2);
            due("not in the row", x.about(0, 5), 0);
            due("next number", x.worker(0, kind, 0, 0, 0, 0), 2);
            dueRow("totals", totals(x), 3, 3, 2, 1, 4, 0, 0);
        }
    }

    // ---- promise 5

    private static void failing() {
        Tree x = new Tree();
        x.worker(0, PERMANENT, 0, 0, 0, 3);
        x.keeper(0, PERMANENT, ONE, 1, 5);
        x.worker(0, PERMANENT, 0, 0, 0, 0);
        x.remove(3);
        due("as made", x.failing(1, 50), 3);
        due("as set", x.failing(1, 1), 50);
        due("begin", x.begin(), false);
        due("one less", x.failing(1, 0), 0);
        due("begin again", x.begin(), true);
        due("while up", x.failing(1, 2), 0);
        refuses(x, ARGUMENT, "failures -1", () -> x.failing(1, -1));
        refuses(x, ARGUMENT, "failures 51", () -> x.failing(1, 51));
        refuses(x, ARGUMENT, "a keeper", () -> x.failing(2, 0));
        refuses(x, ARGUMENT, "keeper 0", () -> x.failing(0, 0));
        refuses(x, ARGUMENT, "a gone one", () -> x.failing(3, 0));
        refuses(x, ARGUMENT, "none", () -> x.failing(4, 0));
        refuses(x, ARGUMENT, "-1", () -> x.failing(-1, 0));
    }

    // ---- promise 6

    private static void beginStartsInOrder() {
        Tree x = new Tree();
        x.worker(0, PERMANENT, 0, 2, 0, 0);
        x.keeper(0, TRANSIENT, ONE, 1, 5);
        x.worker(2, TEMPORARY, 0, 3, 0, 0);
        x.worker(0, TRANSIENT, 0, 1, 0, 0);
        x.worker(2, PERMANENT, 0, 4, 0, 0);
        due("begin", x.begin(), true);
        dueEvents("in order", x, 0, "U1@2 U3@5 U5@9 U2@9 U4@10 U0@10");
        refuses(x, STATE, "it is up", () -> x.begin());
        x.kill(0);
        due("begin again", x.begin(), true);
        due("all up", x.total(2), 6);
    }

    private static void beginFails() {
        Tree x = new Tree();
        x.worker(0, TEMPORARY, 5, 1, 2, 0);
        x.keeper(0, PERMANENT, ONE, 1, 5);
        x.worker(2, TEMPORARY, 5, 1, 3, 0);
        x.worker(0, PERMANENT, NONE, 1, 90, 0);
        x.keeper(0, PERMANENT, ONE, 1, 5);
        x.worker(5, PERMANENT, 2, 1, 3, 0);
        x.worker(5, PERMANENT, 0, 1, 1, 1);
        x.worker(5, PERMANENT, 0, 1, 1, 1);
        x.worker(0, PERMANENT, 0, 1, 1, 1);
        due("begin", x.begin(), false);
        dueEvents("those that are up are stopped", x, 0,
                "U1@1 U3@2 U2@2 U4@3 U6@4 F7@5 K6@7 F5@7 S4@97 S3@100 S2@100 S1@102 F0@102");
        due("none is up", x.total(2), 0);
        due("none is gone", x.total(3), 0);
        due("nothing is counted", x.total(5), 0);
        due("none gave up", x.total(6), 0);
        due("that failed", x.about(7, 7), 0);
        due("behind it", x.about(8, 7), 1);
        due("behind its keeper", x.about(9, 7), 1);
        due("second begin", x.begin(), false);
        due("third begin", x.begin(), false);
        due("fourth begin", x.begin(), true);
        due("temporary ones start again", x.total(2), 10);
    }

    private static void beginEmptiesTheCount() {
        Tree x = new Tree();
        x.worker(0, PERMANENT, 0, 0, 0, 0);
        x.begin();
        x.ends(1, 2);
        x.kill(0);
        due("counted", x.about(0, 6), 1);
        x.failing(1, 1);
        x.begin();
        due("emptied, though it FAILED", x.about(0, 6), 0);
        x.begin();
        x.ends(1, 2);
        due("still up", x.state(0), 1);
        due("in all", x.total(5), 2);
    }

    // ---- promise 7

    private static void endsByKindAndReason() {
        for (int kind = 0; kind <= 2; kind++) {
            for (int reason = 0; reason <= 9; reason++) {
                Tree x = new Tree();
                x.worker(0, kind, 0, 0, 0, 0);
                x.begin();
                x.ends(1, reason);
                boolean restarted = kind == PERMANENT || kind == TRANSIENT && reason >= 2;
                int state = kind == TEMPORARY ? 2 : restarted ? 1 : 0;
                due("state, kind " + kind + " reason " + reason, x.state(1), state);
                due("counted, kind " + kind + " reason " + reason, x.total(5), restarted ? 1 : 0);
                String end = "E1:" + reason + "@0";
                dueEvents("events, kind " + kind + " reason " + reason, x, 2,
                        kind == TEMPORARY ? end + " X1@0" : restarted ? end + " U1@0" : end);
            }
        }
    }

    /** Four workers, each with one unit to start and one to stop, of which the third ended normally. */
    private static Tree fourWorkers(int strategy) {
        Tree x = new Tree();
        x.first(strategy, 3, 100);
        x.worker(0, PERMANENT, 1, 1, 1, 0);
        x.worker(0, PERMANENT, 1, 1, 1, 0);
        x.worker(0, TRANSIENT, 1, 1, 1, 0);
        x.worker(0, PERMANENT, 1, 1, 1, 0);
        x.begin();
        x.ends(3, 0);
        return x;
    }

    private static void endsWithStrategyOne() {
        Tree x = fourWorkers(ONE);
        x.ends(2, 2);
        dueEvents("ONE", x, 6, "E2:2@4 U2@5");
        due("one that is down stays so", x.state(3), 0);
    }

    private static void endsWithStrategyAll() {
        Tree x = fourWorkers(ALL);
        x.ends(2, 2);
        dueEvents("ALL", x, 6, "E2:2@4 S4@5 S1@6 U1@7 U2@8 U3@9 U4@10");
    }

    private static void endsWithStrategyRest() {
        Tree x = fourWorkers(REST);
        x.ends(2, 2);
        dueEvents("REST", x, 6, "E2:2@4 S4@5 U2@6 U3@7 U4@8");
        x.ends(4, 2);
        dueEvents("REST of the last", x, 11, "E4:2@8 U4@9");
        x.ends(1, 2);
        dueEvents("REST of the first", x, 13, "E1:2@9 S4@10 S3@11 S2@12 U1@13 U2@14 U3@15 U4@16");
    }

    private static void temporaryChildrenInRestarts() {
        String[] told = {
            "E3:2@0 U3@0",
            "E3:2@0 S5@0 S6@0 S4@0 X4@0 S2@0 S1@0 X1@0 U2@0 U3@0 U5@0",
            "E3:2@0 S5@0 S6@0 S4@0 X4@0 U3@0 U5@0",
        };
        int[] gone = {0, 3, 2};
        for (int strategy = 0; strategy <= 2; strategy++) {
            Tree x = new Tree();
            x.first(strategy, 3, 100);
            x.worker(0, TEMPORARY, 1, 0, 0, 0);
            x.worker(0, PERMANENT, 1, 0, 0, 0);
            x.worker(0, PERMANENT, 1, 0, 0, 0);
            x.keeper(0, TEMPORARY, ONE, 1, 5);
            x.worker(0, PERMANENT, 1, 0, 0, 0);
            x.worker(4, PERMANENT, 1, 0, 0, 0);
            x.begin();
            x.ends(3, 2);
            dueEvents("strategy " + strategy, x, 7, told[strategy]);
            due("gone with strategy " + strategy, x.total(3), gone[strategy]);
            due("place of 5 with strategy " + strategy, x.about(5, 1), new int[] {4, 2, 3}[strategy]);
        }
        Tree y = new Tree();
        y.first(ALL, 3, 100);
        y.worker(0, PERMANENT, 1, 0, 0, 0);
        y.keeper(0, PERMANENT, ONE, 1, 5);
        y.worker(2, TEMPORARY, 1, 0, 0, 0);
        y.begin();
        y.ends(1, 2);
        dueEvents("of a keeper that is stopped they stay", y, 4, "E1:2@0 S3@0 S2@0 U1@0 U3@0 U2@0");
    }

    private static void failuresInRestarts() {
        Tree one = fourWorkers(ONE);
        one.failing(2, 2);
        one.ends(2, 2);
        dueEvents("ONE", one, 6, "E2:2@4 F2@5 F2@6 U2@7");
        due("ONE counts", one.about(0, 6), 3);

        Tree all = fourWorkers(ALL);
        all.failing(3, 1);
        all.ends(2, 2);
        dueEvents("ALL", all, 6, "E2:2@4 S4@5 S1@6 U1@7 U2@8 F3@9 S2@10 S1@11 U1@12 U2@13 U3@14 U4@15");
        due("ALL counts", all.about(0, 6), 2);

        Tree rest = fourWorkers(REST);
        rest.failing(3, 1);
        rest.ends(2, 2);
        dueEvents("REST", rest, 6, "E2:2@4 S4@5 U2@6 F3@7 U3@8 U4@9");
        due("REST counts", rest.about(0, 6), 2);

        Tree over = fourWorkers(REST);
        over.failing(3, 9);
        over.ends(2, 2);
        dueEvents("too often", over, 6, "E2:2@4 S4@5 U2@6 F3@7 F3@8 F3@9 G0@9 S2@10 S1@11");
        dueRow("totals", totals(over), 11, 5, 0, 0, 15, 4, 1);
        due("failures left", over.about(3, 7), 6);
    }

    private static void countedByTime() {
        for (int units = 2; units <= 3; units++) {
            Tree x = new Tree();
            x.first(ONE, 2, 6);
            x.worker(0, PERMANENT, 0, 0, 0, 0);
            x.begin();
            x.ends(1, 2);
            x.pass(4);
            x.ends(1, 2);
            x.pass(units);
            due("counted by now", x.about(0, 6), units == 2 ? 2 : 1);
            x.ends(1, 2);
            due("not before TIME - t", x.state(0), units == 2 ? 0 : 1);
            due("counted then", x.about(0, 6), units == 2 ? 3 : 2);
        }
    }

    private static void givingUpClimbs() {
        int[] kinds = {PERMANENT, TRANSIENT, TEMPORARY};
        String[] told = {
            "E4:2@0 G2@0 S5@1 S3@2 G1@2 S6@2 U3@2 U4@2 U5@2 U2@2 U6@2 U1@2",
            "E4:2@0 G2@0 S5@1 S3@2",
            "E4:2@0 G2@0 S5@1 S3@2 X2@2",
        };
        for (int kind : kinds) {
            Tree x = new Tree();
            x.keeper(0, PERMANENT, ALL, 0, 5);
            x.keeper(1, kind, ONE, 0, 5);
            x.worker(2, TEMPORARY, 1, 0, 1, 0);
            x.worker(2, PERMANENT, 1, 0, 1, 0);
            x.worker(2, PERMANENT, 1, 0, 1, 0);
            x.worker(1, PERMANENT, 1, 0, 0, 0);
            x.begin();
            x.ends(4, 2);
            dueEvents("kind " + kind, x, 7, told[kind]);
            due("gave up, kind " + kind, x.total(6), kind == PERMANENT ? 2 : 1);
            due("counted, kind " + kind, x.total(5), kind == PERMANENT ? 3 : 1);
            due("gone, kind " + kind, x.total(3), kind == TEMPORARY ? 4 : 0);
        }
        Tree deep = new Tree();
        deep.first(ONE, 0, 1);
        for (int i = 0; i < 7; i++) {
            deep.keeper(i, PERMANENT, ONE, 0, 1);
        }
        deep.worker(7, PERMANENT, 0, 0, 0, 0);
        deep.begin();
        deep.ends(8, 0);
        dueEvents("up to keeper 0", deep, 9, "E8:0@0 G7@0 G6@0 G5@0 G4@0 G3@0 G2@0 G1@0 G0@0");
        due("all down", deep.total(2), 0);
    }

    private static void restartsOfAKeeper() {
        Tree x = new Tree();
        x.first(ONE, 5, 100);
        x.keeper(0, PERMANENT, ONE, 1, 100);
        x.worker(1, TEMPORARY, 1, 0, 0, 0);
        x.worker(1, PERMANENT, 1, 2, 0, 0);
        x.begin();
        x.ends(3, 4);
        x.failing(3, 1);
        x.ends(3, 4);
        dueEvents("its count is empty, and its start may fail", x, 6,
                "E3:4@4 G1@4 S2@4 U2@4 F3@6 S2@6 F1@6 U2@6 U3@8 U1@8");
        due("counted by the keeper", x.about(1, 6), 0);
        due("counted by keeper 0", x.about(0, 6), 2);
    }

    // ---- promise 8

    private static void kill() {
        Tree x = new Tree();
        x.first(ONE, 9, 5);
        x.worker(0, PERMANENT, NONE, 1, 50, 0);
        x.worker(0, TRANSIENT, NONE, 1, 50, 0);
        x.worker(0, TEMPORARY, NONE, 1, 50, 0);
        refuses(x, STATE, "keeper 0 is down", () -> x.kill(0));
        refuses(x, STATE, "a worker is down", () -> x.kill(1));
        x.begin();
        due("permanent", x.kill(1), 1);
        due("transient", x.kill(2), 1);
        due("temporary", x.kill(3), 1);
        dueEvents("killed at once", x, 4, "K1@3 U1@4 K2@4 U2@5 K3@5 X3@5");
        refuses(x, ARGUMENT, "a gone one", () -> x.kill(3));
        refuses(x, ARGUMENT, "none", () -> x.kill(4));
        refuses(x, ARGUMENT, "-1", () -> x.kill(-1));
        due("keeper 0", x.kill(0), 3);
        dueEvents("all", x, 10, "K2@5 K1@5 K0@5");
        due("none is up", x.total(2), 0);
        due("none gave up", x.total(6), 0);
        due("counted", x.total(5), 2);
        due("the killed one's reason", x.event(4, 3), 0);
    }

    private static void killBelowAndAbove() {
        Tree x = new Tree();
        x.first(REST, 1, 5);
        x.worker(0, PERMANENT, 3, 0, 1, 0);
        x.keeper(0, TRANSIENT, ONE, 0, 5);
        x.worker(2, TEMPORARY, 3, 0, 1, 0);
        x.keeper(2, PERMANENT, ONE, 0, 5);
        x.worker(4, PERMANENT, 3, 0, 1, 0);
        x.worker(2, TRANSIENT, 3, 0, 1, 0);
        x.worker(0, PERMANENT, 3, 0, 1, 0);
        x.begin();
        x.ends(6, 0);
        due("those that are up", x.kill(2), 4);
        dueEvents("last of each row first", x, 9,
                "K5@0 K4@0 K3@0 K2@0 S7@1 U3@1 U5@1 U4@1 U6@1 U2@1 U7@1");
        due("once more", x.kill(4), 2);
        dueEvents("its keeper and keeper 0's", x, 20, "K5@1 K4@1 G2@1 S6@2 S3@3");
        due("transient, by a shutdown", x.state(2), 0);
        due("counted by keeper 0", x.about(0, 6), 1);
        x.again(2);
        due("twice within t", x.kill(2), 5);
        due("keeper 0 gave up", x.state(0), 0);
        due("gave up in all", x.total(6), 2);
    }

    // ---- promise 9

    private static void stopByPatience() {
        int[] patience = {0, 0, 1, 3, 3, 3, NONE, NONE, 1000};
        int[] units = {0, 5, 0, 2, 3, 4, 0, 100, 100};
        String[] told = {"K1@0", "K1@0", "S1@0", "S1@2", "S1@3", "K1@3", "S1@0", "S1@100", "S1@100"};
        for (int i = 0; i < told.length; i++) {
            Tree x = new Tree();
            x.worker(0, PERMANENT, patience[i], 0, units[i], 0);
            x.begin();
            x.stop(1);
            dueEvents("patience " + patience[i] + " stop " + units[i], x, 2, told[i]);
            due("stays down", x.state(1), 0);
            due("is not counted", x.total(5), 0);
        }
    }

    private static void stopOfAKeeper() {
        Tree x = new Tree();
        x.keeper(0, TRANSIENT, ALL, 1, 5);
        x.worker(1, TEMPORARY, 9, 0, 1, 0);
        x.worker(1, TRANSIENT, 9, 0, 2, 0);
        x.worker(1, PERMANENT, 9, 0, 4, 0);
        x.keeper(0, TEMPORARY, ONE, 1, 5);
        x.worker(5, TEMPORARY, 9, 0, 8, 0);
        x.begin();
        x.ends(3, 0);
        x.stop(1);
        dueEvents("the last one first", x, 8, "S4@4 S2@5 S1@5");
        due("temporary child stays in the row", x.about(1, 5), 3);
        x.stop(5);
        dueEvents("a temporary keeper is gone", x, 11, "S6@13 S5@13 X5@13");
        due("with all below", x.total(3), 2);
        due("below", x.state(6), 2);
    }

    // ---- promise 10

    private static void again() {
        Tree x = new Tree();
        x.keeper(0, TRANSIENT, ONE, 0, 5);
        x.worker(1, TEMPORARY, 1, 1, 1, 0);
        x.worker(1, PERMANENT, 1, 1, 1, 0);
        x.worker(0, TEMPORARY, 0, 0, 0, 0);
        refuses(x, STATE, "its keeper is down", () -> x.again(1));
        refuses(x, ARGUMENT, "0 is no child", () -> x.again(0));
        x.begin();
        x.stop(4);
        refuses(x, STATE, "up", () -> x.again(1));
        refuses(x, ARGUMENT, "0 is no child, though up", () -> x.again(0));
        refuses(x, ARGUMENT, "a gone one", () -> x.again(4));
        refuses(x, ARGUMENT, "none", () -> x.again(5));
        refuses(x, ARGUMENT, "-1", () -> x.again(-1));
        x.stop(3);
        x.failing(3, 1);
        int from = x.total(4);
        due("worker that fails", x.again(3), false);
        due("stays down", x.state(3), 0);
        due("worker", x.again(3), true);
        dueEvents("worker", x, from, "F3@4 U3@5");
        x.ends(3, 2);
        due("keeper gave up", x.about(1, 6), 1);
        refuses(x, STATE, "its keeper is down", () -> x.again(3));
        x.failing(3, 1);
        from = x.total(4);
        due("keeper that fails", x.again(1), false);
        due("keeper", x.again(1), true);
        dueEvents("keeper", x, from, "U2@7 F3@8 S2@9 F1@9 U2@10 U3@11 U1@11");
        due("its count is empty", x.about(1, 6), 0);
        due("nothing more is counted", x.total(5), 1);
    }

    // ---- promise 11

    private static void remove() {
        Tree x = new Tree();
        x.worker(0, PERMANENT, 0, 0, 0, 0);
        x.keeper(0, PERMANENT, ONE, 1, 5);
        x.worker(2, PERMANENT, 0, 0, 0, 0);
        x.keeper(2, PERMANENT, ONE, 1, 5);
        x.worker(4, PERMANENT, 0, 0, 0, 0);
        x.worker(0, PERMANENT, 0, 0, 0, 0);
        refuses(x, ARGUMENT, "0 is no child", () -> x.remove(0));
        due("while its keeper is down", x.remove(3), 1);
        x.begin();
        refuses(x, STATE, "up", () -> x.remove(2));
        refuses(x, ARGUMENT, "a gone one", () -> x.remove(3));
        refuses(x, ARGUMENT, "none", () -> x.remove(7));
        refuses(x, ARGUMENT, "-1", () -> x.remove(-1));
        x.stop(2);
        int from = x.total(4);
        due("with all below", x.remove(2), 3);
        dueEvents("the topmost alone is told", x, from, "X2@0");
        due("state of it", x.state(2), 2);
        due("state of its child", x.state(4), 2);
        due("state of its child's child", x.state(5), 2);
        due("gone", x.total(3), 4);
        due("the row closes", x.child(0, 1), 6);
        due("the place", x.about(6, 1), 1);
        refuses(x, ARGUMENT, "below a gone one", () -> x.remove(4));
        x.ends(6, 2);
        due("the others go on", x.state(6), 1);
    }

    // ---- promise 12

    private static void pass() {
        Tree x = new Tree();
        due("pass(0)", x.pass(0), 0);
        due("pass(7)", x.pass(7), 7);
        due("pass(10000)", x.pass(10000), 10007);
        due("TIME", x.total(0), 10007);
        refuses(x, ARGUMENT, "-1", () -> x.pass(-1));
        refuses(x, ARGUMENT, "10001", () -> x.pass(10001));
        x.worker(0, PERMANENT, 5, 3, 4, 0);
        x.begin();
        x.stop(1);
        due("with what passed in starts and stops", x.pass(1), 10015);
    }

    // ---- promise 13

    private static void state() {
        Tree x = new Tree();
        x.worker(0, TEMPORARY, 0, 0, 0, 0);
        due("down", x.state(1), 0);
        x.begin();
        due("up", x.state(1), 1);
        due("keeper up", x.state(0), 1);
        x.ends(1, 0);
        due("gone", x.state(1), 2);
        refuses(x, ARGUMENT, "not made", () -> x.state(2));
        refuses(x, ARGUMENT, "-1", () -> x.state(-1));
        refuses(x, ARGUMENT, "79", () -> x.state(79));
        refuses(x, ARGUMENT, "80", () -> x.state(80));
        refuses(x, ARGUMENT, "least", () -> x.state(Integer.MIN_VALUE));
        refuses(x, ARGUMENT, "most", () -> x.state(Integer.MAX_VALUE));
    }

    // ---- promise 14

    private static void about() {
        Tree x = new Tree();
        x.first(ONE, 9, 10);
        x.worker(0, TEMPORARY, 0, 0, 0, 0);
        x.keeper(0, TRANSIENT, ONE, 3, 2);
        x.worker(2, PERMANENT, 0, 1, 0, 0);
        x.worker(2, TRANSIENT, 0, 0, 0, 0);
        x.begin();
        x.ends(3, 2);
        x.ends(3, 2);
        x.failing(4, 6);
        dueRow("0", abouts(x, 0), NONE, 0, 0, 0, 1, 2, 0, NONE);
        dueRow("2", abouts(x, 2), 0, 1, 1, 1, 1, 2, 2, NONE);
        dueRow("3", abouts(x, 3), 2, 0, 2, 0, 0, NONE, NONE, 0);
        dueRow("4", abouts(x, 4), 2, 1, 2, 1, 0, NONE, NONE, 6);
        x.pass(1);
        due("one is before TIME - t", x.about(2, 6), 1);
        x.ends(1, 0);
        due("the place moves up", x.about(2, 1), 0);
        refuses(x, ARGUMENT, "what -1", () -> x.about(0, -1));
        refuses(x, ARGUMENT, "what 8", () -> x.about(0, 8));
        refuses(x, ARGUMENT, "what 8 of a worker", () -> x.about(4, 8));
        refuses(x, ARGUMENT, "a gone one", () -> x.about(1, 0));
        refuses(x, ARGUMENT, "none", () -> x.about(5, 0));
        refuses(x, ARGUMENT, "-1", () -> x.about(-1, 0));
    }

    // ---- promise 15

    private static void child() {
        Tree x = new Tree();
        x.worker(0, TEMPORARY, 0, 0, 0, 0);
        x.keeper(0, PERMANENT, ONE, 1, 5);
        x.worker(2, PERMANENT, 0, 0, 0, 0);
        x.worker(0, PERMANENT, 0, 0, 0, 0);
        dueRow("row of 0", row(x, 0), 1, 2, 4);
        dueRow("row of 2", row(x, 2), 3);
        due("behind the last", x.child(0, 3), NONE);
        due("-1", x.child(0, -1), NONE);
        due("far", x.child(0, Integer.MAX_VALUE), NONE);
        x.begin();
        x.ends(1, 0);
        dueRow("row of 0", row(x, 0), 2, 4);
        due("behind the last", x.child(0, 2), NONE);
        refuses(x, ARGUMENT, "a worker", () -> x.child(4, 0));
        refuses(x, ARGUMENT, "a gone one", () -> x.child(1, 0));
        refuses(x, ARGUMENT, "none", () -> x.child(5, 0));
        refuses(x, ARGUMENT, "-1", () -> x.child(-1, 0));
        x.stop(2);
        x.remove(2);
        refuses(x, ARGUMENT, "a gone keeper", () -> x.child(2, 0));
    }

    // ---- promise 16

    private static void event() {
        Tree x = new Tree();
        x.worker(0, PERMANENT, 0, 3, 0, 0);
        x.begin();
        x.ends(1, 7);
        dueRow("up", eventRow(x, 0), 1, 1, 3, 0);
        dueRow("END", eventRow(x, 2), 5, 1, 3, 7);
        dueRow("up again", eventRow(x, 3), 1, 1, 6, 0);
        dueRow("none", eventRow(x, 4), NONE, NONE, NONE, NONE);
        dueRow("-1", eventRow(x, -1), NONE, NONE, NONE, NONE);
        dueRow("far", eventRow(x, Integer.MAX_VALUE), NONE, NONE, NONE, NONE);
        refuses(x, ARGUMENT, "what -1", () -> x.event(0, -1));
        refuses(x, ARGUMENT, "what 4", () -> x.event(0, 4));
        refuses(x, ARGUMENT, "what 4 of none", () -> x.event(9, 4));
    }

    private static void onlySixHundredEventsAreKept() {
        Tree x = new Tree();
        for (int i = 0; i < 50; i++) {
            x.worker(0, TRANSIENT, 0, 0, 0, 0);
        }
        for (int i = 0; i < 6; i++) {
            x.begin();
            x.kill(0);
        }
        due("events", x.total(4), 612);
        dueRow("the last one kept", eventRow(x, 599), 4, 12, 0, 0);
        dueRow("one more", eventRow(x, 600), NONE, NONE, NONE, NONE);
        due("state after it", x.state(0), 0);
    }

    // ---- promise 17

    private static void total() {
        Tree x = new Tree();
        x.first(ONE, 1, 5);
        x.keeper(0, TRANSIENT, ONE, 0, 5);
        x.worker(1, PERMANENT, 0, 2, 0, 0);
        x.worker(0, TEMPORARY, 0, 0, 0, 0);
        dueRow("made", totals(x), 0, 4, 0, 0, 0, 0, 0);
        x.begin();
        dueRow("begun", totals(x), 2, 4, 4, 0, 4, 0, 0);
        x.ends(3, 0);
        dueRow("one gone", totals(x), 2, 4, 3, 1, 6, 0, 0);
        x.ends(2, 0);
        dueRow("one gave up", totals(x), 2, 4, 1, 1, 8, 1, 1);
        x.again(1);
        x.ends(2, 0);
        dueRow("once more", totals(x), 4, 4, 1, 1, 12, 2, 2);
        x.remove(1);
        dueRow("of gone keepers too", totals(x), 4, 4, 1, 3, 13, 2, 2);
        refuses(x, ARGUMENT, "-1", () -> x.total(-1));
        refuses(x, ARGUMENT, "7", () -> x.total(7));
    }

    private static void manyRestartsStayCounted() {
        Tree x = new Tree();
        x.first(ONE, 50, 1);
        x.worker(0, PERMANENT, 0, 2, 0, 0);
        x.begin();
        for (int i = 0; i < 40; i++) {
            x.failing(1, 50);
            x.ends(1, 2);
        }
        due("in all", x.total(5), 40 * 51);
        due("TIME", x.total(0), 2 + 2 * 40 * 51);
        x.kill(0);
        x.first(ONE, 50, 1000);
        due("as far as the widest t reaches", x.about(0, 6), 500);
    }
}
