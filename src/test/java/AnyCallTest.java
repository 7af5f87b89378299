import java.util.Random;

/**
 * What holds for every call: none throws, whatever its values and however many came before; the same
 * calls answer the same, whatever other objects do; the 512th call is answered like the first.
 */
public final class AnyCallTest {
    private static final int RUNS = 400;
    private static final int PROMISED_CALLS = 512;
    private static final int CALLS = 4 * PROMISED_CALLS;
    private static final int[] ODD = {
        Integer.MIN_VALUE, Integer.MIN_VALUE + 1, -1000, -1, 9, 10, 15, 16, 20, 21, 50, 51, 60, 61, 99, 100,
        199, 200, 201, 255, 256, 9999, 10000, 10001, 30000, Integer.MAX_VALUE - 1, Integer.MAX_VALUE};
    private static final long[] TIMES = {
        Long.MIN_VALUE, -1L << 32, -1, 1L << 31, 1L << 32, Long.MAX_VALUE - 1, Long.MAX_VALUE};

    private static final Due DUE = new Due("any call");

    private AnyCallTest() {
    }

    public static void main(String[] args) {
        // First, since anything that objects shared would be full after the other runs.
        sameCallsAnswerTheSame();
        noneThrows();
        lastPromisedCall();
        DUE.end();
    }

    /** Mostly small values, which reach many states; the others stand at bounds and far beyond them. */
    private static int value(Random random) {
        return random.nextInt(6) == 0 ? ODD[random.nextInt(ODD.length)] : random.nextInt(8);
    }

    private static long time(Random random) {
        return random.nextInt(200) == 0 ? TIMES[random.nextInt(TIMES.length)] : random.nextInt(20);
    }

    private static Call call(Random random) {
        // More starts than anything else, so that a run comes to have all 200 tasks.
        int method = random.nextInt(3) == 0 ? 2 : random.nextInt(Call.METHODS);
        return new Call(method, value(random), value(random), value(random), time(random));
    }

    private static String answer(Call call, TaskStates2 x) {
        try {
            return Integer.toString(call.on(x));
        } catch (RuntimeException e) {
            return e.toString();
        }
    }

    private static void noneThrows() {
        for (int run = 0; run < RUNS; run++) {
            DUE.part("none throws, run " + run);
            Random random = new Random(run);
            TaskStates2 x = new TaskStates2();
            for (int i = 0; i < CALLS; i++) {
                Call call = call(random);
                String got = answer(call, x);
                DUE.same("call " + i + ", " + call, got.matches("-?[0-9]+") ? "a number" : got, "a number");
            }
        }
    }

    private static void sameCallsAnswerTheSame() {
        for (int run = 0; run < RUNS; run++) {
            DUE.part("same calls, run " + run);
            Random random = new Random(1_000_000 + run);
            TaskStates2 alone = new TaskStates2();
            TaskStates2 disturbed = new TaskStates2();
            TaskStates2 other = new TaskStates2();
            Call[] calls = new Call[PROMISED_CALLS];
            String[] answers = new String[PROMISED_CALLS];
            for (int i = 0; i < calls.length; i++) {
                calls[i] = call(random);
                answers[i] = answer(calls[i], alone);
            }
            for (int i = 0; i < calls.length; i++) {
                answer(call(random), other);
                DUE.same("call " + i + ", " + calls[i], answer(calls[i], disturbed), answers[i]);
            }
        }
    }

    private static void lastPromisedCall() {
        DUE.part("the 512th call");
        for (int method = 0; method < Call.METHODS; method++) {
            TaskStates2 early = ready();
            TaskStates2 late = ready();
            for (int made = 4; made < PROMISED_CALLS - 1; made++) {
                late.count(0);
            }
            Call call = new Call(method, 1, 0, 0, 0);
            DUE.same(call.toString(), answer(call, late), answer(call, early));
        }
    }

    /** Made by four calls: a code, a terminal, a task that runs there, one more that queues. */
    private static TaskStates2 ready() {
        TaskStates2 x = new TaskStates2();
        x.code(7, 0, 5);
        x.terminal();
        x.start(1, 1, 0);
        x.start(1, 1, 0);
        return x;
    }
}
