import java.util.List;
import java.util.function.ToIntFunction;

/**
 * Each call that the document refuses, or answers without doing anything: its answer is the one that
 * is due, and an object after it tells all that one without it tells. Tried on an empty object, on
 * one with tasks in every state, on one that is full but for tasks, and on a full one.
 */
public final class RefusedTest {
    private static final int NONE = TaskStates2.NONE;
    private static final int LEAST = Integer.MIN_VALUE;
    private static final int MOST = Integer.MAX_VALUE;

    private static final Due DUE = new Due("refused");
    private static Scene scene;
    private static List<String> unchanged;

    private RefusedTest() {
    }

    public static void main(String[] args) {
        for (Scene s : Scene.values()) {
            scene = s;
            unchanged = Probe.of(s::make, s);
            inAnyScene();
        }
        in(Scene.EMPTY);
        startOnEmpty();
        in(Scene.BUSY);
        codeWrong();
        startWrong();
        eventWrong();
        eventNotNow();
        linkRefused();
        backWrong();
        backNothing();
        backNotNow();
        storageRefused();
        purgeNothing();
        handleRefused();
        conditionRefused();
        severalFaults();
        in(Scene.ROOM_FOR_TASKS);
        codeWrong();
        noMoreCodesAndTerminals();
        in(Scene.FULL);
        codeWrong();
        noMoreCodesAndTerminals();
        noMoreTasks();
        DUE.end();
    }

    private static void in(Scene s) {
        scene = s;
        unchanged = Probe.of(s::make, s);
    }

    private static void part(String name) {
        DUE.part(scene + ", " + name);
    }

    /** The call answers what is due, and everything is then as it was. */
    private static void refused(String call, int due, ToIntFunction<TaskStates2> on) {
        DUE.is(call, on.applyAsInt(scene.make()), due);
        List<String> after = Probe.of(() -> {
            TaskStates2 x = scene.make();
            on.applyAsInt(x);
            return x;
        }, scene);
        DUE.same("what has changed by " + call, firstChange(after), "nothing");
    }

    private static String firstChange(List<String> after) {
        for (int i = 0; i < Math.min(after.size(), unchanged.size()); i++) {
            if (!after.get(i).equals(unchanged.get(i))) {
                return after.get(i) + ", which was " + unchanged.get(i);
            }
        }
        return after.size() == unchanged.size() ? "nothing" : "how much there is to tell";
    }

    /** Numbers from 1 on: those on either side of them, and the least and the greatest int. */
    private static int[] noNumber(int last) {
        return new int[] {LEAST, LEAST + 1, -1, 0, last + 1, MOST};
    }

    private static int[] outside(int low, int high) {
        return new int[] {LEAST, low - 1, high + 1, MOST};
    }

    private static void inAnyScene() {
        noSuchTask();
        noSuchTerminal();
        noSuchCode();
        limitWrong();
        tickWrong();
        othersAreNone();
        askingChangesNothing();
    }

    private static void noSuchTask() {
        part("no such task: -2, told NONE");
        for (int task : noNumber(scene.tasks)) {
            String t = "(" + task + ", ";
            for (int kind = 0; kind <= 2; kind++) {
                int k = kind;
                refused("event" + t + k + ", 0)", -2, x -> x.event(task, k, 0));
            }
            refused("link" + t + "0)", -2, x -> x.link(task, 0));
            refused("back" + t + "0, 0)", -2, x -> x.back(task, 0, 0));
            refused("storage" + t + "1)", -2, x -> x.storage(task, 1));
            refused("purge(" + task + ")", -2, x -> x.purge(task));
            refused("handle" + t + "0, 1)", -2, x -> x.handle(task, 0, 1));
            refused("condition" + t + "0)", -2, x -> x.condition(task, 0));
            refused("state(" + task + ")", -2, x -> x.state(task));
            for (int what = 0; what <= 5; what++) {
                int w = what;
                refused("told" + t + w + ")", NONE, x -> x.told(task, w));
            }
        }
    }

    private static void noSuchTerminal() {
        part("no such terminal: -2");
        for (int n : noNumber(scene.terminals)) {
            refused("area(" + n + ")", -2, x -> x.area(n));
            refused("owner(" + n + ")", -2, x -> x.owner(n));
            refused("start(0, " + n + ", 0)", -2, x -> x.start(0, n, 0));
            if (n != 0) {
                refused("start(1, " + n + ", 0)", -2, x -> x.start(1, n, 0));
            }
        }
    }

    private static void noSuchCode() {
        part("no such code: -2");
        for (int code : noNumber(scene.codes)) {
            refused("start(" + code + ", 0, 0)", -2, x -> x.start(code, 0, 0));
        }
    }

    private static void limitWrong() {
        part("limit: -4 cls 0 .. 9, n 0 .. 50");
        for (int cls : outside(0, 9)) {
            refused("limit(" + cls + ", 1)", -4, x -> x.limit(cls, 1));
        }
        for (int n : outside(0, 50)) {
            for (int cls = 0; cls <= 9; cls++) {
                int c = cls;
                refused("limit(" + c + ", " + n + ")", -4, x -> x.limit(c, n));
            }
        }
    }

    private static void tickWrong() {
        part("tick: -4 when t is before the time");
        refused("tick(-1)", -4, x -> x.tick(-1));
        refused("tick(least)", -4, x -> x.tick(Long.MIN_VALUE));
        refused("tick(least + 1)", -4, x -> x.tick(Long.MIN_VALUE + 1));
        // Their lower 32 bits would be a time that has not passed.
        refused("tick(-1L << 32)", -4, x -> x.tick(-1L << 32));
        if (scene == Scene.BUSY) {
            refused("tick(0)", -4, x -> x.tick(0));
            refused("tick(99)", -4, x -> x.tick(99));
        }
    }

    private static void othersAreNone() {
        part("told, count: NONE for others");
        for (int what : new int[] {LEAST, LEAST + 10, -1, 6, 7, 8, 9, 20, MOST - 9, MOST}) {
            refused("count(" + what + ")", NONE, x -> x.count(what));
            refused("told(1, " + what + ")", NONE, x -> x.told(1, what));
        }
        refused("told(1, 10)", NONE, x -> x.told(1, 10));
    }

    private static void askingChangesNothing() {
        part("asking changes nothing");
        TaskStates2 asked = scene.make();
        for (int what = 0; what <= 19; what++) {
            int w = what;
            refused("count(" + w + ")", asked.count(w), x -> x.count(w));
        }
        for (int what = 0; what <= 5; what++) {
            int w = what;
            refused("told(1, " + w + ")", asked.told(1, w), x -> x.told(1, w));
        }
        refused("state(1)", asked.state(1), x -> x.state(1));
        refused("area(1)", asked.area(1), x -> x.area(1));
        refused("owner(1)", asked.owner(1), x -> x.owner(1));
        // The time that is and the limits that are may be set again; nothing starts by it.
        long now = scene == Scene.BUSY ? 100 : 0;
        refused("tick of the time that is", 0, x -> x.tick(now));
        refused("limit(9, 50)", 50, x -> x.limit(9, 50));
    }

    private static void startOnEmpty() {
        part("start: nothing to start");
        refused("start(1, 1, 0)", -2, x -> x.start(1, 1, 0));
        refused("start(0, 0, -1)", -2, x -> x.start(0, 0, -1));
        refused("start(1, 0, least)", -2, x -> x.start(1, 0, Long.MIN_VALUE));
    }

    private static void codeWrong() {
        part("code: -4 program 0 .. 99, cls, priority is not so");
        for (int program : outside(0, 99)) {
            refused("code(" + program + ", 0, 0)", -4, x -> x.code(program, 0, 0));
        }
        for (int cls : outside(0, 9)) {
            refused("code(0, " + cls + ", 0)", -4, x -> x.code(0, cls, 0));
        }
        for (int priority : outside(0, 255)) {
            refused("code(0, 0, " + priority + ")", -4, x -> x.code(0, 0, priority));
        }
        refused("code(-1, -1, -1)", -4, x -> x.code(-1, -1, -1));
    }

    private static void startWrong() {
        part("start: -2 no next code");
        for (int n : new int[] {1, 2, 4}) {
            refused("start(0, " + n + ", 0)", -2, x -> x.start(0, n, 0));
        }
        part("start: -4 when is below 0");
        for (long when : new long[] {-1, Long.MIN_VALUE, Long.MIN_VALUE + 1, -1L << 32}) {
            refused("start(1, 0, " + when + ")", -4, x -> x.start(1, 0, when));
            refused("start(1, 1, " + when + ")", -4, x -> x.start(1, 1, when));
            refused("start(0, 3, " + when + ")", -4, x -> x.start(0, 3, when));
        }
    }

    private static void eventWrong() {
        part("event: -4 kind is not so");
        for (int kind : outside(0, 2)) {
            for (int task : new int[] {1, 3, 4, 5, 6, 8}) {
                refused("event(" + task + ", " + kind + ", 0)", -4, x -> x.event(task, kind, 0));
            }
        }
        part("event: -4 v is not so");
        for (int v : outside(0, 15)) {
            for (int task : new int[] {1, 3, 4, 8}) {
                refused("event(" + task + ", 0, " + v + ")", -4, x -> x.event(task, 0, v));
                refused("event(" + task + ", 1, " + v + ")", -4, x -> x.event(task, 1, v));
            }
        }
    }

    private static void eventNotNow() {
        part("event: -5 it doesn't run");
        for (int task : new int[] {3, 4, 5, 6, 7, 8, 10, 12, 15}) {
            refused("event(" + task + ", 0, 0)", -5, x -> x.event(task, 0, 0));
            refused("event(" + task + ", 0, 15)", -5, x -> x.event(task, 0, 15));
            refused("event(" + task + ", 2, 0)", -5, x -> x.event(task, 2, 0));
            refused("event(" + task + ", 2, least)", -5, x -> x.event(task, 2, LEAST));
        }
        part("event: -5 it doesn't wait for that event");
        for (int v = 0; v <= 15; v++) {
            int other = v;
            for (int task : new int[] {1, 2, 4, 5, 6, 7, 8}) {
                refused("event(" + task + ", 1, " + v + ")", -5, x -> x.event(task, 1, other));
            }
            if (v != 15) {
                refused("event(3, 1, " + v + ")", -5, x -> x.event(3, 1, other));
            }
            if (v != 0) {
                refused("event(15, 1, " + v + ")", -5, x -> x.event(15, 1, other));
            }
        }
    }

    private static void linkRefused() {
        part("link: -4");
        for (int program : outside(0, 99)) {
            for (int task : new int[] {1, 2, 3, 4, 8}) {
                refused("link(" + task + ", " + program + ")", -4, x -> x.link(task, program));
            }
        }
        part("link: -5");
        for (int task : new int[] {3, 4, 5, 6, 7, 8, 10, 12, 15}) {
            refused("link(" + task + ", 0)", -5, x -> x.link(task, 0));
        }
        part("link: NONE when it is at level 10");
        refused("link(2, 0)", NONE, x -> x.link(2, 0));
        refused("link(2, 99)", NONE, x -> x.link(2, 99));
    }

    private static void backWrong() {
        part("back: -4 next is no code");
        for (int next : new int[] {LEAST, -1, 5, 60, MOST}) {
            for (int task : new int[] {1, 2, 3, 4, 8, 9}) {
                refused("back(" + task + ", " + next + ", 0)", -4, x -> x.back(task, next, 0));
            }
        }
        part("back: -4 area is not 0 .. 9999");
        for (int area : outside(0, 9999)) {
            for (int task : new int[] {1, 2, 3, 4, 8, 9}) {
                refused("back(" + task + ", 0, " + area + ")", -4, x -> x.back(task, 0, area));
                refused("back(" + task + ", 1, " + area + ")", -4, x -> x.back(task, 1, area));
            }
        }
    }

    private static void backNothing() {
        // Task 2 is at level 10, 14 at level 2 with a terminal, 9 at level 1 without one.
        for (int task : new int[] {2, 14, 9}) {
            part(task == 9 ? "back: 0 at level 1 without a terminal" : "back: 0 above level 1");
            refused("back(" + task + ", 1, 0)", 0, x -> x.back(task, 1, 0));
            refused("back(" + task + ", 4, 0)", 0, x -> x.back(task, 4, 0));
            refused("back(" + task + ", 0, 1)", 0, x -> x.back(task, 0, 1));
            refused("back(" + task + ", 0, 9999)", 0, x -> x.back(task, 0, 9999));
            refused("back(" + task + ", 1, 1)", 0, x -> x.back(task, 1, 1));
        }
    }

    private static void backNotNow() {
        part("back: -5");
        for (int task : new int[] {3, 4, 5, 6, 7, 8, 10, 12, 15}) {
            refused("back(" + task + ", 0, 0)", -5, x -> x.back(task, 0, 0));
            refused("back(" + task + ", 1, 9)", -5, x -> x.back(task, 1, 9));
        }
    }

    private static void storageRefused() {
        part("storage: -4 n is not 0 .. 10000");
        for (int n : outside(0, 10000)) {
            for (int task : new int[] {1, 3, 4, 8, 9}) {
                refused("storage(" + task + ", " + n + ")", -4, x -> x.storage(task, n));
            }
        }
        part("storage: -5 it isn't active");
        for (int task : new int[] {4, 5, 6, 7, 8, 10, 11, 12, 13}) {
            refused("storage(" + task + ", 0)", -5, x -> x.storage(task, 0));
            refused("storage(" + task + ", 10000)", -5, x -> x.storage(task, 10000));
        }
        part("storage: NONE above 30000");
        refused("storage(1, 1)", NONE, x -> x.storage(1, 1));
        refused("storage(1, 10000)", NONE, x -> x.storage(1, 10000));
        refused("storage(2, 2)", NONE, x -> x.storage(2, 2));
        refused("storage(2, 10000)", NONE, x -> x.storage(2, 10000));
        part("storage: 0 more is what it has");
        refused("storage(1, 0)", 30000, x -> x.storage(1, 0));
        refused("storage(3, 0)", 1, x -> x.storage(3, 0));
    }

    private static void purgeNothing() {
        part("purge: 0 in other states");
        for (int task : new int[] {1, 2, 4, 5, 6, 7, 9, 14}) {
            refused("purge(" + task + ")", 0, x -> x.purge(task));
        }
    }

    private static void handleRefused() {
        part("handle: -4 condition 0 .. 9");
        for (int kind : outside(0, 9)) {
            for (int task : new int[] {1, 2, 3, 4, 8}) {
                refused("handle(" + task + ", " + kind + ", 1)", -4, x -> x.handle(task, kind, 1));
            }
        }
        part("handle: -4 label 1 .. 9999, or 0");
        for (int label : outside(0, 9999)) {
            for (int task : new int[] {1, 2, 3, 4, 8}) {
                refused("handle(" + task + ", 0, " + label + ")", -4, x -> x.handle(task, 0, label));
                refused("handle(" + task + ", 9, " + label + ")", -4, x -> x.handle(task, 9, label));
            }
        }
        part("handle: -5");
        for (int task : new int[] {3, 4, 5, 6, 7, 8, 10, 12, 15}) {
            refused("handle(" + task + ", 5, 1)", -5, x -> x.handle(task, 5, 1));
            refused("handle(" + task + ", 5, 0)", -5, x -> x.handle(task, 5, 0));
        }
    }

    private static void conditionRefused() {
        part("condition: -4");
        for (int kind : outside(0, 9)) {
            for (int task : new int[] {1, 2, 3, 4, 8}) {
                refused("condition(" + task + ", " + kind + ")", -4, x -> x.condition(task, kind));
            }
        }
        part("condition: -5");
        for (int task : new int[] {3, 4, 5, 6, 7, 8, 10, 12, 15}) {
            for (int kind : new int[] {0, 5, 9}) {
                refused("condition(" + task + ", " + kind + ")", -5, x -> x.condition(task, kind));
            }
        }
        part("condition: one that is handled changes nothing");
        refused("condition(1, 9)", 9999, x -> x.condition(1, 9));
        refused("condition(1, 0)", 10, x -> x.condition(1, 0));
        refused("condition(1, 1)", 10, x -> x.condition(1, 1));
        refused("condition(2, 3)", 33, x -> x.condition(2, 3));
    }

    /** The document lists -2, -4, -5 and NONE in this order, and so they are tested. */
    private static void severalFaults() {
        part("several faults at once");
        refused("start(5, 0, -1)", -2, x -> x.start(5, 0, -1));
        refused("start(1, 5, -1)", -2, x -> x.start(1, 5, -1));
        refused("start(0, 1, -1)", -2, x -> x.start(0, 1, -1));
        refused("event(16, 3, 16)", -2, x -> x.event(16, 3, 16));
        refused("link(16, 100)", -2, x -> x.link(16, 100));
        refused("back(16, 5, 10000)", -2, x -> x.back(16, 5, 10000));
        refused("storage(16, 10001)", -2, x -> x.storage(16, 10001));
        refused("handle(16, 10, 10000)", -2, x -> x.handle(16, 10, 10000));
        refused("condition(16, 10)", -2, x -> x.condition(16, 10));
        refused("told(16, 6)", NONE, x -> x.told(16, 6));
        refused("limit(10, 51)", -4, x -> x.limit(10, 51));
        refused("back(2, 5, 1), at level 10", -4, x -> x.back(2, 5, 1));
        refused("back(9, 1, 10000), without a terminal", -4, x -> x.back(9, 1, 10000));
        refused("back(3, 1, 0), which waits at level 2", -5, x -> x.back(3, 1, 0));
        refused("back(15, 1, 0), which waits without a terminal", -5, x -> x.back(15, 1, 0));
        refused("link(2, 100), at level 10", -4, x -> x.link(2, 100));
        refused("storage(1, 10001), at 30000", -4, x -> x.storage(1, 10001));
    }

    private static void noMoreCodesAndTerminals() {
        part("code: NONE when there are 60");
        refused("code(0, 0, 0)", NONE, x -> x.code(0, 0, 0));
        refused("code(99, 9, 255)", NONE, x -> x.code(99, 9, 255));
        part("terminal: NONE when there are 20");
        refused("terminal()", NONE, x -> x.terminal());
    }

    private static void noMoreTasks() {
        part("start: NONE when there are 200");
        refused("start(1, 0, 0)", NONE, x -> x.start(1, 0, 0));
        refused("start(60, 20, greatest)", NONE, x -> x.start(60, 20, Long.MAX_VALUE));
        refused("start(0, 20, 0)", NONE, x -> x.start(0, 20, 0));
        part("other faults come before NONE");
        refused("start(61, 0, 0)", -2, x -> x.start(61, 0, 0));
        refused("start(1, 21, 0)", -2, x -> x.start(1, 21, 0));
        refused("start(0, 19, 0)", -2, x -> x.start(0, 19, 0));
        refused("start(1, 0, -1)", -4, x -> x.start(1, 0, -1));
        refused("start(0, 20, -1)", -4, x -> x.start(0, 20, -1));
        part("a full object's tasks");
        refused("link(58, 1)", NONE, x -> x.link(58, 1));
        refused("storage(58, 1)", NONE, x -> x.storage(58, 1));
        refused("event(59, 1, 2)", -5, x -> x.event(59, 1, 2));
        refused("event(200, 2, 0)", -5, x -> x.event(200, 2, 0));
        refused("purge(1)", 0, x -> x.purge(1));
        refused("purge(58)", 0, x -> x.purge(58));
    }
}
