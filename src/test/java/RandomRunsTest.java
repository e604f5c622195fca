import java.util.Arrays;
import java.util.Random;
import java.util.function.ToIntFunction;

/** Long runs of calls, right and wrong ones, of the class and of the model: every answer is the same. */
public final class RandomRunsTest extends Checks {
    private static final int RUNS = 400;
    private static final int CALLS = 300;
    /** All that can be asked is asked after so many calls; the answer and the totals after each. */
    private static final int CALLS_BETWEEN_LOOKS = 100;

    /** A call, and its text for the one who looks for a fault. */
    private record Step(String text, ToIntFunction<Face> call) {
    }

    private final Tree tree = new Tree();
    private final Model model = new Model();
    private final Random random;
    private final int mostUnits;
    private final int mostFailures;
    private final int mostR;
    private final int oneWrongIn;

    /** Runs differ in how long starts take, how many fail, how soon keepers give up, what is wrong. */
    private RandomRunsTest(int run) {
        random = new Random(run);
        mostUnits = random.nextInt(5);
        mostFailures = random.nextInt(4) * random.nextInt(4);
        mostR = 1 + random.nextInt(12);
        oneWrongIn = 20 + random.nextInt(200);
    }

    public static void main(String[] args) {
        for (int run = 0; run < RUNS; run++) {
            subject("run " + run);
            new RandomRunsTest(run).go();
        }
        closeTest();
    }

    private void go() {
        boolean same = true;
        for (int i = 1; i <= CALLS && same; i++) {
            Step step = nextStep();
            String text = "call " + i + ", " + step.text;
            same = dueText(text, answer(tree, step), answer(model, step))
                    && dueText(text + ", totals", listed(totals(tree)), listed(totals(model)));
            if (same && i % CALLS_BETWEEN_LOOKS == 0) {
                same = dueText(text + ", all that can be asked", everything(tree), everything(model));
            }
        }
    }

    private static String answer(Face face, Step step) {
        try {
            return Integer.toString(step.call.applyAsInt(face));
        } catch (RuntimeException e) {
            return "throws " + e.getClass().getSimpleName();
        }
    }

    private Step nextStep() {
        boolean isUp = model.state(0) == UP;
        switch (random.nextInt(isUp ? 12 : 6)) {
            case 0:
                return makesKeeper();
            case 1:
            case 2:
                return makesWorker();
            case 3:
                return isUp ? ends() : begins();
            case 4:
                return asks();
            case 5:
                return random.nextInt(3) == 0 ? anyChange() : isUp ? ends() : begins();
            case 6:
                return fails();
            case 7:
                return anyChange();
            default:
                return ends();
        }
    }

    private Step anyChange() {
        int node = node();
        switch (random.nextInt(8)) {
            case 0:
                return new Step("kill(" + node + ")", x -> x.kill(node));
            case 1:
                return new Step("stop(" + node + ")", x -> {
                    x.stop(node);
                    return 0;
                });
            case 2:
            case 3:
            case 4:
                return new Step("again(" + node + ")", x -> x.again(node) ? 1 : 0);
            case 5:
                return random.nextInt(4) == 0 ? new Step("remove(" + node + ")", x -> x.remove(node)) : passes();
            case 6:
                return changesFirst();
            default:
                return begins();
        }
    }

    private Step makesKeeper() {
        int[] n = {keeperNode(), within(0, 2), within(0, 2), within(0, mostR, 50), within(1, 20, 1000)};
        return new Step("keeper" + listed(n), x -> x.keeper(n[0], n[1], n[2], n[3], n[4]));
    }

    private Step makesWorker() {
        int failures = random.nextInt(4) == 0 ? within(0, mostFailures, 50) : 0;
        int[] n = {keeperNode(), within(0, 2), within(NONE, 4, 1000), within(0, mostUnits, 100),
            within(0, 5, 100), failures};
        return new Step("worker" + listed(n), x -> x.worker(n[0], n[1], n[2], n[3], n[4], n[5]));
    }

    private Step changesFirst() {
        int[] n = {within(0, 2), within(0, mostR, 50), within(1, 20, 1000)};
        return new Step("first" + listed(n), x -> {
            x.first(n[0], n[1], n[2]);
            return 0;
        });
    }

    private Step fails() {
        int[] n = {node(), within(0, mostFailures, 50)};
        return new Step("failing" + listed(n), x -> x.failing(n[0], n[1]));
    }

    private Step begins() {
        return new Step("begin()", x -> x.begin() ? 1 : 0);
    }

    private Step ends() {
        int[] n = {node(), within(0, 9)};
        return new Step("ends" + listed(n), x -> {
            x.ends(n[0], n[1]);
            return 0;
        });
    }

    private Step passes() {
        int n = within(0, 30, 10000);
        return new Step("pass(" + n + ")", x -> x.pass(n));
    }

    private Step asks() {
        int[] n = {node(), within(0, 7), within(0, 20)};
        switch (random.nextInt(5)) {
            case 0:
                return new Step("state(" + n[0] + ")", x -> x.state(n[0]));
            case 1:
                return new Step("about" + listed(n), x -> x.about(n[0], n[1]));
            case 2:
                return new Step("child" + listed(n), x -> x.child(n[0], n[2]));
            case 3:
                return new Step("event" + listed(n), x -> x.event(n[2], n[1]));
            default:
                return new Step("total" + listed(n), x -> x.total(n[1]));
        }
    }

    /** One that is there, as a rule, or the next ones to it. */
    private int node() {
        int made = model.total(1);
        return isWrongNow() ? (random.nextBoolean() ? NONE : made) : random.nextInt(made);
    }

    /** Looks a few times for a keeper, so that trees grow. */
    private int keeperNode() {
        int node = node();
        for (int i = 0; i < 6 && !isKeeper(node); i++) {
            node = node();
        }
        return node;
    }

    private boolean isKeeper(int node) {
        return node >= 0 && node < model.total(1) && model.state(node) != GONE && model.about(node, 4) == 1;
    }

    private int within(int least, int most) {
        return within(least, most, most);
    }

    /** As a rule least .. usual, seldom as far as most, and once in a while the next to that. */
    private int within(int least, int usual, int most) {
        if (isWrongNow()) {
            return random.nextBoolean() ? least - 1 : most + 1;
        }
        return least + random.nextInt((random.nextInt(50) == 0 ? most : usual) - least + 1);
    }

    private boolean isWrongNow() {
        return random.nextInt(oneWrongIn) == 0;
    }

    private static String listed(int[] numbers) {
        return Arrays.toString(numbers).replace('[', '(').replace(']', ')');
    }
}
