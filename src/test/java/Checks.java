import java.util.ArrayList;
import java.util.Arrays;
import java.util.List;

/** What the tests are written in: answers that are due, and calls that are to be refused. */
abstract class Checks {
    static final int NONE = KeeperTree.NONE;
    static final int ONE = 0;
    static final int ALL = 1;
    static final int REST = 2;
    static final int PERMANENT = 0;
    static final int TRANSIENT = 1;
    static final int TEMPORARY = 2;
    static final int DOWN = 0;
    static final int UP = 1;
    static final int GONE = 2;
    static final Class<? extends Exception> ARGUMENT = IllegalArgumentException.class;
    static final Class<? extends Exception> STATE = IllegalStateException.class;

    private static final int MOST_TOLD = 600;
    /** So many nodes are used to show what a refused call may have changed. */
    private static final int MOST_TRIED = 12;

    private static int wrong = 0;
    private static String subject = "";

    interface Call {
        void run();
    }

    /** What the answers that come now are about: a promise or a sentence of the document. */
    static void subject(String promiseOrSentence) {
        subject = promiseOrSentence;
    }

    static void closeTest() {
        System.out.println(wrong == 0 ? "all answers are as due" : wrong + " answers are not as due");
        if (wrong != 0) {
            System.exit(1);
        }
    }

    static void due(String call, long got, long want) {
        if (got != want) {
            tellWrong(call, Long.toString(got), Long.toString(want));
        }
    }

    static void due(String call, boolean got, boolean want) {
        if (got != want) {
            tellWrong(call, Boolean.toString(got), Boolean.toString(want));
        }
    }

    static void dueRow(String call, int[] got, int... want) {
        dueText(call, Arrays.toString(got), Arrays.toString(want));
    }

    /** Events as letter, node, reason and TIME: Up, Failed, Stopped, Killed, End, Gave up, X gone. */
    static void dueEvents(String call, Tree x, int from, String want) {
        List<String> told = new ArrayList<>();
        int size = Math.min(MOST_TOLD, x.total(4));
        for (int i = from; i < size; i++) {
            int[] event = eventRow(x, i);
            // Only an END has a reason, also if it is 0: that of another one is a fault, and shows.
            String reason = event[0] == 5 || event[3] != 0 ? ":" + event[3] : "";
            told.add(" UFSKEGX".charAt(event[0]) + "" + event[1] + reason + "@" + event[2]);
        }
        dueText(call, String.join(" ", told), want);
    }

    /** That the call throws just this, and that nothing is changed by it, not even what cannot be asked. */
    static void refuses(Tree x, Class<? extends Exception> want, String call, Call refused) {
        Tree twin = x.copy();
        Class<?> got = null;
        try {
            refused.run();
        } catch (RuntimeException e) {
            got = e.getClass();
        }
        if (got != want) {
            tellWrong(call, "throws " + got, "throws " + want);
        }
        dueText(call + ", what it leaves", everything(x), everything(twin));
        Tree after = x.copy();
        useAll(after);
        useAll(twin);
        dueText(call + ", what comes of it", everything(after), everything(twin));
    }

    static int[] abouts(Face x, int node) {
        int[] row = new int[8];
        for (int what = 0; what < row.length; what++) {
            row[what] = x.about(node, what);
        }
        return row;
    }

    static int[] totals(Face x) {
        int[] row = new int[7];
        for (int what = 0; what < row.length; what++) {
            row[what] = x.total(what);
        }
        return row;
    }

    static int[] row(Face x, int keeper) {
        int[] row = new int[x.about(keeper, 5)];
        for (int i = 0; i < row.length; i++) {
            row[i] = x.child(keeper, i);
        }
        return row;
    }

    static int[] eventRow(Face x, int i) {
        int[] row = new int[4];
        for (int what = 0; what < row.length; what++) {
            row[what] = x.event(i, what);
        }
        return row;
    }

    /** All that can be asked of it. */
    static String everything(Face x) {
        StringBuilder all = new StringBuilder(Arrays.toString(totals(x)));
        int made = x.total(1);
        for (int node = 0; node < made; node++) {
            int state = x.state(node);
            all.append(' ').append(state);
            if (state != GONE) {
                int[] abouts = abouts(x, node);
                all.append(Arrays.toString(abouts));
                if (abouts[4] == 1) {
                    all.append(Arrays.toString(row(x, node)));
                }
            }
        }
        int size = Math.min(MOST_TOLD, x.total(4));
        for (int i = 0; i < size; i++) {
            all.append(Arrays.toString(eventRow(x, i)));
        }
        return all.toString();
    }

    /** Strategies, bounds, patience and units cannot be asked: they show in what comes of such calls. */
    private static void useAll(Tree x) {
        for (int i = 0; i < 3; i++) {
            if (x.state(0) != UP) {
                x.begin();
            }
            x.pass(i);
            endEachWorker(x);
            stopEachChild(x);
        }
    }

    private static void endEachWorker(Tree x) {
        int tried = Math.min(MOST_TRIED, x.total(1));
        for (int node = 1; node < tried; node++) {
            if (x.state(node) == UP && x.about(node, 4) == 0) {
                x.ends(node, 2);
            }
        }
    }

    private static void stopEachChild(Tree x) {
        int tried = Math.min(MOST_TRIED, x.total(1));
        for (int node = 1; node < tried; node++) {
            if (x.state(node) == UP) {
                x.stop(node);
            }
            if (x.state(node) == DOWN && x.state(x.about(node, 0)) == UP) {
                x.again(node);
            }
        }
    }

    /** Whether it is so. */
    static boolean dueText(String call, String got, String want) {
        if (!got.equals(want)) {
            tellWrong(call, got, want);
        }
        return got.equals(want);
    }

    private static void tellWrong(String call, String got, String want) {
        wrong++;
        System.out.println(subject + ": " + call + " answered " + got + ", due is " + want);
    }
}
