import java.util.Random;

/** Mixed runs of calls, the same ones each time, whose answers are compared with those of the model. */
public final class ModelTest {
    private static final int RUNS = 3000;
    private static final int CALLS = 512;
    private static final int MOST_WRONG_TOLD = 20;
    // How often each method is called, so that starts outweigh ends and the rows fill up.
    private static final int[] WEIGHTS = {4, 2, 16, 12, 8, 8, 2, 5, 3, 3, 4, 5, 4, 6, 8, 4, 6};
    private static final int[] ODD = {
        -1, 0, 1, 9, 10, 15, 16, 20, 50, 51, 99, 100, 255, 256, 9999, 10000, 10001,
        Integer.MIN_VALUE, Integer.MAX_VALUE};

    private final Random random;
    private final Due due;
    private final boolean crowded;
    private final TaskStates2 real = new TaskStates2();
    private final Model model = new Model();
    private int tasks;
    private long now;

    private ModelTest(int run, Due due) {
        this.random = new Random(run);
        this.due = due;
        this.crowded = run % 3 == 0;
    }

    public static void main(String[] args) {
        Due due = new Due("model");
        for (int run = 0; run < RUNS && due.wrong() < MOST_WRONG_TOLD; run++) {
            due.part("run " + run);
            new ModelTest(run, due).run();
        }
        due.end();
    }

    private void run() {
        int before = due.wrong();
        for (int i = 0; i < CALLS && due.wrong() == before; i++) {
            step(i);
        }
    }

    private void step(int i) {
        int method = i < 6 ? i % 2 : pickMethod();
        Call call = new Call(method, pickFirst(method), pickSecond(method), pickThird(method), pickTime(method));
        int want = model.answer(call);
        due.is("call " + i + ", " + call, call.on(real), want);
        if (method == 2 && want > 0) {
            tasks = want;
        }
        if (method == 9 && want >= 0) {
            now = call.when();
        }
    }

    private int pickMethod() {
        int sum = 0;
        for (int w : WEIGHTS) {
            sum += w;
        }
        int left = random.nextInt(sum);
        int method = 0;
        while (left >= WEIGHTS[method]) {
            left -= WEIGHTS[method];
            method++;
        }
        // Crowded runs start a task instead of half of all other calls.
        return crowded && random.nextInt(2) == 0 ? 2 : method;
    }

    private boolean odd() {
        return random.nextInt(40) == 0;
    }

    private int pick(int low, int high) {
        return odd() ? ODD[random.nextInt(ODD.length)] : low + random.nextInt(high - low + 1);
    }

    private int pickFirst(int method) {
        return switch (method) {
            case 0 -> pick(0, 99);
            case 2 -> pick(0, 6);
            case 6, 15 -> pick(1, 5);
            case 8 -> pick(0, 3);
            case 16 -> pick(0, 19);
            default -> pickTask();
        };
    }

    private int pickTask() {
        return random.nextInt(4) == 0 ? pick(1, 4) : pick(Math.max(1, tasks - 12), tasks + 1);
    }

    private int pickSecond(int method) {
        return switch (method) {
            case 0 -> pick(0, 3);
            case 2 -> pick(0, 5);
            case 3 -> random.nextInt(3) == 0 ? pick(0, 2) : pick(0, 1);
            case 4 -> pick(0, 99);
            case 5 -> random.nextBoolean() ? 0 : pick(0, 4);
            case 7 -> pick(0, 10000);
            case 8 -> crowded ? pick(0, 50) : pick(0, 6);
            case 14 -> pick(0, 5);
            default -> pick(0, 9);
        };
    }

    private int pickThird(int method) {
        return switch (method) {
            case 0 -> random.nextBoolean() ? pick(0, 3) : pick(0, 255);
            case 3 -> pick(0, 3);
            case 5 -> random.nextBoolean() ? 0 : pick(0, 9999);
            default -> random.nextInt(3) == 0 ? 0 : pick(0, 9999);
        };
    }

    private long pickTime(int method) {
        if (random.nextInt(60) == 0) {
            return random.nextBoolean() ? -1 : now - 1;
        }
        return method == 9 || random.nextInt(3) == 0 ? now + random.nextInt(8) : now;
    }
}
