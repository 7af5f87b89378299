/** Each promise of the document: ordinary inputs, the edges that it names, and wrong inputs. */
public final class PromisesTest {
    private static final int NONE = TaskStates2.NONE;
    private static final int LEAST = Integer.MIN_VALUE;
    private static final int MOST = Integer.MAX_VALUE;

    private static final Due DUE = new Due("promises");
    private static TaskStates2 x;

    private PromisesTest() {
    }

    public static void main(String[] args) {
        newObject();
        code();
        terminal();
        start();
        startOfNextCode();
        startFullOfTasks();
        startOrder();
        startWaitsForTerminal();
        startWaitsForLimit();
        startOnlyWhenFree();
        event();
        eventEndsAndLetsStart();
        link();
        backByLevels();
        backAtLevelOne();
        backWrong();
        area();
        storage();
        storageTillActiveNoMore();
        limit();
        limitLetsStart();
        tick();
        tickStartsInOrder();
        purge();
        handle();
        handleByLevel();
        condition();
        conditionAbends();
        state();
        told();
        owner();
        count();
        DUE.end();
    }

    private static void fresh(String part) {
        DUE.part(part);
        x = new TaskStates2();
    }

    private static void due(String call, long got, long want) {
        DUE.is(call, got, want);
    }

    /** A new object with a code 1 (program 7, class 0, priority 5), a terminal 1, and task 1 running there. */
    private static void freshWithTask(String part) {
        fresh(part);
        due("code", x.code(7, 0, 5), 1);
        due("terminal", x.terminal(), 1);
        due("start", x.start(1, 1, 0), 1);
    }

    private static void dueStates(int... states) {
        for (int i = 0; i < states.length; i++) {
            due("state(" + (i + 1) + ")", x.state(i + 1), states[i]);
        }
    }

    private static void newObject() {
        fresh("1 new object");
        for (int what = 0; what <= 5; what++) {
            due("count(" + what + ")", x.count(what), 0);
        }
        for (int cls = 0; cls <= 9; cls++) {
            due("count(" + (10 + cls) + ")", x.count(10 + cls), 0);
            due("limit(" + cls + ", 50)", x.limit(cls, 50), 50);
        }
        due("area(1)", x.area(1), -2);
        due("owner(1)", x.owner(1), -2);
        due("state(1)", x.state(1), -2);
        due("told(1, 0)", x.told(1, 0), NONE);
        due("tick(0)", x.tick(0), 0);
        TaskStates2 other = new TaskStates2();
        due("code", x.code(0, 0, 0), 1);
        due("another object's count(0)", other.count(0), 0);
    }

    private static void code() {
        fresh("2 code");
        due("lowest", x.code(0, 0, 0), 1);
        due("highest", x.code(99, 9, 255), 2);
        int[][] wrong = {
            {-1, 0, 0}, {100, 0, 0}, {0, -1, 0}, {0, 10, 0}, {0, 0, -1}, {0, 0, 256},
            {LEAST, 0, 0}, {MOST, 0, 0}, {0, LEAST, 0}, {0, MOST, 0}, {0, 0, LEAST}, {0, 0, MOST}};
        for (int[] w : wrong) {
            due("code(" + w[0] + ", " + w[1] + ", " + w[2] + ")", x.code(w[0], w[1], w[2]), -4);
        }
        due("count(0)", x.count(0), 2);
        for (int n = 3; n <= 60; n++) {
            due("code " + n, x.code(n, n % 10, n), n);
        }
        due("a 61st", x.code(1, 1, 1), NONE);
        due("a wrong 61st", x.code(100, 1, 1), -4);
        due("count(0)", x.count(0), 60);
        due("start of the last", x.start(60, 0, 0), 1);
        due("its program", x.told(1, 1), 60);
        due("start of the second", x.start(2, 0, 0), 2);
        due("its program", x.told(2, 1), 99);
        due("its class", x.count(19), 1);
    }

    private static void terminal() {
        fresh("3 terminal");
        for (int n = 1; n <= 20; n++) {
            due("terminal " + n, x.terminal(), n);
            due("its area", x.area(n), 0);
            due("its owner", x.owner(n), 0);
            due("its next code", x.start(0, n, 0), -2);
        }
        due("a 21st", x.terminal(), NONE);
        due("count(1)", x.count(1), 20);
    }

    private static void start() {
        fresh("4 start");
        due("no code", x.start(1, 0, 0), -2);
        due("no next code, no terminal", x.start(0, 0, 0), -2);
        due("code", x.code(7, 3, 5), 1);
        due("terminal", x.terminal(), 1);
        due("code too great", x.start(2, 0, 0), -2);
        due("code below 0", x.start(-1, 0, 0), -2);
        due("code least", x.start(LEAST, 0, 0), -2);
        due("code most", x.start(MOST, 0, 0), -2);
        due("terminal too great", x.start(1, 2, 0), -2);
        due("terminal below 0", x.start(1, -1, 0), -2);
        due("terminal least", x.start(1, LEAST, 0), -2);
        due("no next code of no terminal", x.start(0, 2, 0), -2);
        due("when below 0", x.start(1, 1, -1), -4);
        due("when least", x.start(1, 1, Long.MIN_VALUE), -4);
        due("-2 comes before -4", x.start(2, 1, -1), -2);
        due("-2 comes before -4", x.start(1, 2, -1), -2);
        due("-2 comes before -4", x.start(0, 1, -1), -2);
        due("count(2)", x.count(2), 0);
        due("with a terminal", x.start(1, 1, 0), 1);
        due("without one", x.start(1, 0, 0), 2);
        due("later", x.start(1, 0, 1), 3);
        due("much later", x.start(1, 0, Long.MAX_VALUE), 4);
        dueStates(1, 1, 0, 0);
        due("told(1, 3)", x.told(1, 3), 1);
        due("told(1, 4)", x.told(1, 4), 1);
        due("told(2, 4)", x.told(2, 4), 0);
        due("tick(1)", x.tick(1), 1);
        dueStates(1, 1, 1, 0);
        due("when has passed", x.start(1, 0, 0), 5);
        due("when is now", x.start(1, 0, 1), 6);
        dueStates(1, 1, 1, 0, 1, 1);
    }

    private static void startOfNextCode() {
        freshWithTask("4 start of the next code");
        due("code", x.code(8, 0, 0), 2);
        due("back", x.back(1, 2, 33), 1);
        due("when below 0 leaves the next code", x.start(0, 1, -1), -4);
        due("a code of its own leaves it too", x.start(1, 1, 9), 2);
        due("the next code", x.start(0, 1, 5), 3);
        due("its code", x.told(3, 3), 2);
        due("its terminal", x.told(3, 4), 1);
        due("none then", x.start(0, 1, 0), -2);
        due("the area stays", x.area(1), 33);
        due("tick(5)", x.tick(5), 1);
        due("its program", x.told(3, 1), 8);
    }

    private static void startFullOfTasks() {
        freshWithTask("4 start of 200");
        due("back", x.back(1, 1, 0), 1);
        for (int n = 2; n <= 200; n++) {
            due("start " + n, x.start(1, 0, 7), n);
        }
        due("a 201st", x.start(1, 0, 0), NONE);
        due("a 201st of the next code", x.start(0, 1, 0), NONE);
        due("it still has a next code", x.start(0, 1, 0), NONE);
        due("-2 comes before NONE", x.start(2, 0, 0), -2);
        due("-4 comes before NONE", x.start(1, 0, -1), -4);
        due("count(2)", x.count(2), 200);
        due("count(3)", x.count(3), 199);
        due("count(4)", x.count(4), 0);
        due("count(5)", x.count(5), 0);
        due("tick(7)", x.tick(7), 50);
        due("state(51)", x.state(51), 1);
        due("state(52)", x.state(52), 0);
        due("state(200)", x.state(200), 0);
        due("state(201)", x.state(201), -2);
    }

    private static void startOrder() {
        fresh("4 order of starts");
        due("limit", x.limit(0, 1), 50);
        int[] priorities = {5, 9, 0, 255, 9};
        for (int i = 0; i < priorities.length; i++) {
            due("code", x.code(i, 0, priorities[i]), i + 1);
        }
        for (int n = 1; n <= 5; n++) {
            due("start", x.start(n, 0, 0), n);
        }
        int[] order = {1, 4, 2, 5, 3};
        for (int i = 0; i < order.length; i++) {
            due("state(" + order[i] + ")", x.state(order[i]), 1);
            due("count(4)", x.count(4), 1);
            due("count(3)", x.count(3), 4 - i);
            due("end", x.event(order[i], 2, 0), 3);
        }
        due("count(4)", x.count(4), 0);
    }

    private static void startWaitsForTerminal() {
        freshWithTask("4 a terminal's other task");
        due("code", x.code(8, 1, 9), 2);
        due("start", x.start(1, 1, 0), 2);
        due("start", x.start(2, 1, 0), 3);
        due("start elsewhere", x.start(1, 0, 0), 4);
        dueStates(1, 0, 0, 1);
        due("wait", x.event(1, 0, 1), 2);
        dueStates(2, 0, 0, 1);
        due("purge", x.purge(1), 1);
        dueStates(5, 0, 1, 1);
        due("abend", x.condition(3, 2), -1002);
        dueStates(5, 1, 4, 1);
    }

    private static void startWaitsForLimit() {
        fresh("4 a class's limit");
        due("code", x.code(0, 4, 0), 1);
        due("code", x.code(0, 5, 0), 2);
        due("limit", x.limit(4, 2), 50);
        for (int n = 1; n <= 3; n++) {
            due("start", x.start(1, 0, 0), n);
        }
        due("start of another class", x.start(2, 0, 0), 4);
        dueStates(1, 1, 0, 1);
        due("wait", x.event(2, 0, 0), 2);
        dueStates(1, 2, 0, 1);
        due("end of another class", x.event(4, 2, 0), 3);
        dueStates(1, 2, 0, 3);
        due("back ends", x.back(1, 0, 0), 1);
        dueStates(3, 2, 1, 3);
        due("count(14)", x.count(14), 2);
    }

    private static void startOnlyWhenFree() {
        freshWithTask("4 time, terminal and limit together");
        due("limit", x.limit(0, 1), 50);
        due("start", x.start(1, 1, 10), 2);
        due("end", x.event(1, 2, 0), 3);
        dueStates(3, 0);
        due("start", x.start(1, 1, 0), 3);
        due("tick", x.tick(10), 0);
        dueStates(3, 0, 1);
        due("limit", x.limit(0, 2), 1);
        dueStates(3, 0, 1);
        due("end", x.event(3, 2, 0), 3);
        dueStates(3, 1, 3);
    }

    private static void event() {
        freshWithTask("5 event");
        due("no such task", x.event(2, 0, 0), -2);
        due("task 0", x.event(0, 0, 0), -2);
        due("task least", x.event(LEAST, 0, 0), -2);
        due("-2 comes before -4", x.event(2, 3, 16), -2);
        int[][] wrong = {{-1, 0}, {3, 0}, {LEAST, 0}, {MOST, 0}, {0, -1}, {0, 16}, {1, -1}, {1, 16}, {1, LEAST}};
        for (int[] w : wrong) {
            due("event(1, " + w[0] + ", " + w[1] + ")", x.event(1, w[0], w[1]), -4);
        }
        due("comes to one that runs", x.event(1, 1, 0), -5);
        due("waits", x.event(1, 0, 15), 2);
        due("told(1, 5)", x.told(1, 5), 15);
        due("waits again", x.event(1, 0, 15), -5);
        due("ends while it waits", x.event(1, 2, 0), -5);
        due("another event", x.event(1, 1, 14), -5);
        due("-4 comes before -5", x.event(1, 0, 16), -4);
        due("state(1)", x.state(1), 2);
        due("the event", x.event(1, 1, 15), 1);
        due("told(1, 5)", x.told(1, 5), NONE);
        due("the event again", x.event(1, 1, 15), -5);
        due("waits for 0", x.event(1, 0, 0), 2);
        due("told(1, 5)", x.told(1, 5), 0);
        due("event 0", x.event(1, 1, 0), 1);
        due("start", x.start(1, 0, 5), 2);
        for (int kind = 0; kind <= 2; kind++) {
            due("event(2, " + kind + ", 0) while queued", x.event(2, kind, 0), -5);
        }
        due("state(2)", x.state(2), 0);
    }

    private static void eventEndsAndLetsStart() {
        freshWithTask("5 event ends");
        due("start", x.start(1, 1, 0), 2);
        due("link", x.link(1, 3), 2);
        due("ends at level 2, any v", x.event(1, 2, -99), 3);
        dueStates(3, 1);
        due("owner(1)", x.owner(1), 2);
        for (int kind = 0; kind <= 2; kind++) {
            due("event(1, " + kind + ", 0) when ended", x.event(1, kind, 0), -5);
        }
        due("ends, any v", x.event(2, 2, MOST), 3);
        due("no next code is kept", x.start(0, 1, 0), -2);
    }

    private static void link() {
        freshWithTask("6 link");
        due("no such task", x.link(2, 0), -2);
        due("task 0", x.link(0, 0), -2);
        due("-2 comes before -4", x.link(2, 100), -2);
        due("program below 0", x.link(1, -1), -4);
        due("program too great", x.link(1, 100), -4);
        due("told(1, 0)", x.told(1, 0), 1);
        due("told(1, 1)", x.told(1, 1), 7);
        due("link(1, 0)", x.link(1, 0), 2);
        due("told(1, 1)", x.told(1, 1), 0);
        due("link(1, 99)", x.link(1, 99), 3);
        due("told(1, 1)", x.told(1, 1), 99);
        due("wait", x.event(1, 0, 0), 2);
        due("while it waits", x.link(1, 1), -5);
        due("-4 comes before -5", x.link(1, 100), -4);
        due("it runs", x.event(1, 1, 0), 1);
        for (int level = 4; level <= 10; level++) {
            due("to level " + level, x.link(1, level), level);
        }
        due("beyond level 10", x.link(1, 50), NONE);
        due("-4 comes before NONE", x.link(1, 100), -4);
        due("told(1, 0)", x.told(1, 0), 10);
        due("told(1, 1)", x.told(1, 1), 10);
        due("wait", x.event(1, 0, 0), 2);
        due("-5 comes before NONE", x.link(1, 50), -5);
        due("start", x.start(1, 1, 0), 2);
        due("while queued", x.link(2, 1), -5);
    }

    private static void backByLevels() {
        freshWithTask("7 back by levels");
        for (int level = 2; level <= 10; level++) {
            due("link", x.link(1, 10 + level), level);
        }
        for (int level = 9; level >= 2; level--) {
            due("next is not 0", x.back(1, 1, 0), 0);
            due("area is not 0", x.back(1, 0, 1), 0);
            due("back", x.back(1, 0, 0), 1);
            due("level", x.told(1, 0), level);
            due("program", x.told(1, 1), 10 + level);
        }
        due("back to level 1", x.back(1, 0, 0), 1);
        due("level", x.told(1, 0), 1);
        due("program", x.told(1, 1), 7);
        due("state", x.state(1), 1);
        due("nothing was kept", x.area(1), 0);
        due("nothing was kept", x.start(0, 1, 0), -2);
    }

    private static void backAtLevelOne() {
        freshWithTask("7 back at level 1");
        due("start", x.start(1, 1, 0), 2);
        due("back", x.back(1, 1, 9999), 1);
        dueStates(3, 1);
        due("area", x.area(1), 9999);
        due("next", x.start(0, 1, 0), 3);
        due("next and area", x.back(2, 1, 5), 1);
        due("both 0 are kept too", x.back(3, 0, 0), 1);
        due("area", x.area(1), 0);
        due("next", x.start(0, 1, 0), -2);
        due("start without a terminal", x.start(1, 0, 0), 4);
        due("next without a terminal", x.back(4, 1, 0), 0);
        due("area without a terminal", x.back(4, 0, 1), 0);
        due("state(4)", x.state(4), 1);
        due("both 0 without a terminal", x.back(4, 0, 0), 1);
        due("state(4)", x.state(4), 3);
        due("area", x.area(1), 0);
    }

    private static void backWrong() {
        freshWithTask("7 back, wrong inputs");
        due("no such task", x.back(2, 0, 0), -2);
        due("task 0", x.back(0, 0, 0), -2);
        due("-2 comes before -4", x.back(2, 2, 0), -2);
        int[][] wrong = {{-1, 0}, {2, 0}, {LEAST, 0}, {MOST, 0}, {0, -1}, {0, 10000}, {0, LEAST}, {1, MOST}};
        for (int[] w : wrong) {
            due("back(1, " + w[0] + ", " + w[1] + ")", x.back(1, w[0], w[1]), -4);
        }
        due("link", x.link(1, 1), 2);
        due("-4 comes before 0", x.back(1, 2, 0), -4);
        due("wait", x.event(1, 0, 0), 2);
        due("while it waits", x.back(1, 0, 0), -5);
        due("-5 comes before 0", x.back(1, 1, 1), -5);
        due("-4 comes before -5", x.back(1, 0, 10000), -4);
        due("told(1, 0)", x.told(1, 0), 2);
        due("start", x.start(1, 1, 0), 2);
        due("while queued", x.back(2, 0, 0), -5);
        due("purge", x.purge(1), 1);
        due("when purged", x.back(1, 0, 0), -5);
    }

    private static void area() {
        freshWithTask("8 area");
        due("terminal", x.terminal(), 2);
        due("area(1)", x.area(1), 0);
        due("back", x.back(1, 0, 77), 1);
        due("area(1)", x.area(1), 77);
        due("area(2)", x.area(2), 0);
        due("area(3)", x.area(3), -2);
        due("area(0)", x.area(0), -2);
        due("area(-1)", x.area(-1), -2);
        due("area least", x.area(LEAST), -2);
        due("area most", x.area(MOST), -2);
        due("start", x.start(1, 1, 0), 2);
        due("area(1)", x.area(1), 77);
        due("abend", x.condition(2, 1), -1001);
        due("area(1)", x.area(1), 77);
    }

    private static void storage() {
        freshWithTask("9 storage");
        due("no such task", x.storage(2, 0), -2);
        due("task 0", x.storage(0, 0), -2);
        due("-2 comes before -4", x.storage(2, -1), -2);
        due("below 0", x.storage(1, -1), -4);
        due("above 10000", x.storage(1, 10001), -4);
        due("most", x.storage(1, MOST), -4);
        due("0", x.storage(1, 0), 0);
        due("10000", x.storage(1, 10000), 10000);
        due("wait", x.event(1, 0, 0), 2);
        due("while it waits", x.storage(1, 10000), 20000);
        due("9999", x.storage(1, 9999), 29999);
        due("above 30000", x.storage(1, 2), NONE);
        due("-4 comes before NONE", x.storage(1, 10001), -4);
        due("told(1, 2)", x.told(1, 2), 29999);
        due("just 30000", x.storage(1, 1), 30000);
        due("0 more", x.storage(1, 0), 30000);
        due("1 more", x.storage(1, 1), NONE);
        due("another task", x.start(1, 0, 0), 2);
        due("it has its own", x.storage(2, 4), 4);
        due("count(5)", x.count(5), 30004);
        due("start", x.start(1, 1, 0), 3);
        due("while queued", x.storage(3, 1), -5);
        due("-4 comes before -5", x.storage(3, -1), -4);
    }

    private static void storageTillActiveNoMore() {
        fresh("9 storage till active no more");
        due("code", x.code(0, 0, 0), 1);
        for (int n = 1; n <= 4; n++) {
            due("start", x.start(1, 0, 0), n);
            due("storage", x.storage(n, 1000 * n), 1000 * n);
        }
        due("count(5)", x.count(5), 10000);
        due("end", x.event(1, 2, 0), 3);
        due("count(5)", x.count(5), 9000);
        due("back", x.back(2, 0, 0), 1);
        due("count(5)", x.count(5), 7000);
        due("abend", x.condition(3, 0), -1000);
        due("count(5)", x.count(5), 4000);
        due("wait", x.event(4, 0, 0), 2);
        due("count(5)", x.count(5), 4000);
        due("purge", x.purge(4), 1);
        due("count(5)", x.count(5), 0);
        for (int n = 1; n <= 4; n++) {
            due("told(" + n + ", 2)", x.told(n, 2), 0);
            due("storage", x.storage(n, 1), -5);
        }
    }

    private static void limit() {
        fresh("10 limit");
        int[][] wrong = {{-1, 0}, {10, 0}, {LEAST, 0}, {MOST, 0}, {0, -1}, {0, 51}, {0, LEAST}, {0, MOST}};
        for (int[] w : wrong) {
            due("limit(" + w[0] + ", " + w[1] + ")", x.limit(w[0], w[1]), -4);
        }
        for (int cls = 0; cls <= 9; cls++) {
            due("limit(" + cls + ", 0)", x.limit(cls, 0), 50);
        }
        for (int cls = 0; cls <= 9; cls++) {
            due("limit(" + cls + ", cls)", x.limit(cls, cls), 0);
        }
        for (int cls = 0; cls <= 9; cls++) {
            due("limit(" + cls + ", 50)", x.limit(cls, 50), cls);
        }
    }

    private static void limitLetsStart() {
        fresh("10 limit lets start");
        due("code", x.code(0, 9, 0), 1);
        for (int n = 1; n <= 52; n++) {
            due("start", x.start(1, 0, 0), n);
        }
        due("50 at first", x.count(19), 50);
        due("lower", x.limit(9, 2), 50);
        due("active tasks stay", x.count(19), 50);
        for (int n = 1; n <= 48; n++) {
            due("end", x.event(n, 2, 0), 3);
        }
        due("none started", x.count(3), 2);
        due("still at its limit", x.count(19), 2);
        due("0", x.limit(9, 0), 2);
        due("end", x.event(49, 2, 0), 3);
        due("none started", x.count(3), 2);
        due("2", x.limit(9, 2), 0);
        due("state(51)", x.state(51), 1);
        due("state(52)", x.state(52), 0);
        due("another class", x.limit(8, 3), 50);
        due("state(52)", x.state(52), 0);
        due("50", x.limit(9, 50), 2);
        due("state(52)", x.state(52), 1);
    }

    private static void tick() {
        fresh("11 tick");
        due("below 0", x.tick(-1), -4);
        due("least", x.tick(Long.MIN_VALUE), -4);
        due("the same time", x.tick(0), 0);
        due("code", x.code(0, 0, 0), 1);
        due("start", x.start(1, 0, 5), 1);
        due("start", x.start(1, 0, 6), 2);
        due("start", x.start(1, 0, 5), 3);
        due("start", x.start(1, 0, Long.MAX_VALUE), 4);
        due("tick(4)", x.tick(4), 0);
        dueStates(0, 0, 0, 0);
        due("tick(5)", x.tick(5), 2);
        dueStates(1, 0, 1, 0);
        due("tick(5)", x.tick(5), 0);
        due("tick(4)", x.tick(4), -4);
        due("start", x.start(1, 0, 5), 5);
        due("state(5)", x.state(5), 1);
        due("beyond int", x.tick(5_000_000_000L), 1);
        due("before it", x.tick(4_999_999_999L), -4);
        due("start", x.start(1, 0, 5_000_000_001L), 6);
        due("state(6)", x.state(6), 0);
        due("most", x.tick(Long.MAX_VALUE), 2);
        due("most again", x.tick(Long.MAX_VALUE), 0);
        due("before it", x.tick(Long.MAX_VALUE - 1), -4);
    }

    private static void tickStartsInOrder() {
        fresh("11 tick starts in order");
        due("code", x.code(0, 0, 1), 1);
        due("code", x.code(0, 0, 2), 2);
        due("code", x.code(0, 1, 1), 3);
        due("terminal", x.terminal(), 1);
        due("limit", x.limit(0, 2), 50);
        due("start", x.start(1, 0, 3), 1);
        due("start", x.start(1, 1, 3), 2);
        due("start", x.start(2, 1, 3), 3);
        due("start", x.start(2, 1, 2), 4);
        due("start", x.start(3, 1, 3), 5);
        due("start", x.start(3, 0, 3), 6);
        due("start", x.start(3, 0, 4), 7);
        due("tick(3)", x.tick(3), 3);
        dueStates(1, 0, 1, 0, 0, 1, 0);
        due("owner(1)", x.owner(1), 3);
    }

    private static void purge() {
        freshWithTask("12 purge");
        due("no such task", x.purge(2), -2);
        due("task 0", x.purge(0), -2);
        due("task -1", x.purge(-1), -2);
        due("task least", x.purge(LEAST), -2);
        due("one that runs", x.purge(1), 0);
        due("state(1)", x.state(1), 1);
        due("start", x.start(1, 1, 0), 2);
        due("start", x.start(1, 1, 0), 3);
        due("a queued one", x.purge(2), 1);
        dueStates(1, 5, 0);
        due("a purged one", x.purge(2), 0);
        due("the owner stays", x.owner(1), 1);
        due("the class's tasks stay", x.count(10), 1);
        due("wait", x.event(1, 0, 3), 2);
        due("one that waits", x.purge(1), 1);
        dueStates(5, 5, 1);
        due("told(1, 5)", x.told(1, 5), NONE);
        due("the event comes", x.event(1, 1, 3), -5);
        due("count(10)", x.count(10), 1);
        due("end", x.event(3, 2, 0), 3);
        due("an ended one", x.purge(3), 0);
        due("start", x.start(1, 1, 0), 4);
        due("abend", x.condition(4, 9), -1009);
        due("an abended one", x.purge(4), 0);
        dueStates(5, 5, 3, 4);
        due("never starts", x.tick(99), 0);
    }

    private static void handle() {
        freshWithTask("13 handle");
        due("no such task", x.handle(2, 0, 1), -2);
        due("task 0", x.handle(0, 0, 1), -2);
        due("-2 comes before -4", x.handle(2, 10, 1), -2);
        int[][] wrong = {{-1, 1}, {10, 1}, {LEAST, 1}, {MOST, 1}, {0, -1}, {0, 10000}, {0, LEAST}, {9, MOST}};
        for (int[] w : wrong) {
            due("handle(1, " + w[0] + ", " + w[1] + ")", x.handle(1, w[0], w[1]), -4);
        }
        for (int kind = 0; kind <= 9; kind++) {
            due("handle(1, " + kind + ", ..)", x.handle(1, kind, 9990 + kind), 0);
        }
        for (int kind = 0; kind <= 9; kind++) {
            due("condition(1, " + kind + ")", x.condition(1, kind), 9990 + kind);
            due("handle(1, " + kind + ", 1)", x.handle(1, kind, 1), 9990 + kind);
        }
        due("not any more", x.handle(1, 3, 0), 1);
        due("was not", x.handle(1, 3, 0), 0);
        due("0 takes it", x.condition(1, 3), 1);
        due("wait", x.event(1, 0, 0), 2);
        due("while it waits", x.handle(1, 3, 5), -5);
        due("-4 comes before -5", x.handle(1, 3, 10000), -4);
        due("start", x.start(1, 1, 0), 2);
        due("while queued", x.handle(2, 3, 5), -5);
        due("it runs", x.event(1, 1, 0), 1);
        due("was not", x.handle(1, 3, 5), 0);
        due("another task", x.start(1, 0, 0), 3);
        due("it handles nothing", x.handle(3, 4, 0), 0);
    }

    private static void handleByLevel() {
        freshWithTask("13 handle by level");
        due("level 1", x.handle(1, 4, 41), 0);
        due("level 1, all", x.handle(1, 0, 10), 0);
        due("link", x.link(1, 1), 2);
        due("level 2 has none", x.handle(1, 4, 42), 0);
        due("level 2", x.condition(1, 4), 42);
        due("back", x.back(1, 0, 0), 1);
        due("level 1", x.condition(1, 4), 41);
        due("level 1, all", x.condition(1, 5), 10);
        due("link again", x.link(1, 1), 2);
        due("a new level has none", x.handle(1, 4, 0), 0);
        due("it isn't looked for below", x.condition(1, 4), -1004);
        due("state(1)", x.state(1), 4);
        due("when abended", x.handle(1, 4, 1), -5);
    }

    private static void condition() {
        freshWithTask("14 condition");
        due("no such task", x.condition(2, 0), -2);
        due("task 0", x.condition(0, 0), -2);
        due("-2 comes before -4", x.condition(2, 10), -2);
        due("kind below 0", x.condition(1, -1), -4);
        due("kind too great", x.condition(1, 10), -4);
        due("kind least", x.condition(1, LEAST), -4);
        due("kind most", x.condition(1, MOST), -4);
        due("handle 2", x.handle(1, 2, 22), 0);
        due("handled", x.condition(1, 2), 22);
        due("handled again", x.condition(1, 2), 22);
        due("state(1)", x.state(1), 1);
        due("handle all", x.handle(1, 0, 1), 0);
        due("by itself", x.condition(1, 2), 22);
        due("by 0", x.condition(1, 9), 1);
        due("0 by itself", x.condition(1, 0), 1);
        due("wait", x.event(1, 0, 0), 2);
        due("while it waits", x.condition(1, 2), -5);
        due("-4 comes before -5", x.condition(1, 10), -4);
        due("start", x.start(1, 1, 0), 2);
        due("while queued", x.condition(2, 2), -5);
        dueStates(2, 0);
    }

    private static void conditionAbends() {
        freshWithTask("14 condition abends");
        due("start", x.start(1, 1, 0), 2);
        due("handle", x.handle(1, 3, 5), 0);
        due("storage", x.storage(1, 8), 8);
        due("link", x.link(1, 3), 2);
        due("abends", x.condition(1, 3), -1003);
        dueStates(4, 1);
        due("owner(1)", x.owner(1), 2);
        due("told(1, 0)", x.told(1, 0), 0);
        due("told(1, 2)", x.told(1, 2), 0);
        due("again", x.condition(1, 3), -5);
        due("handle 2", x.handle(2, 2, 5), 0);
        due("0 isn't handled by 2", x.condition(2, 0), -1000);
        due("start", x.start(1, 1, 0), 3);
        due("all", x.handle(3, 0, 5), 0);
        due("not any more", x.handle(3, 0, 0), 5);
        due("abends", x.condition(3, 9), -1009);
        dueStates(4, 4, 4);
    }

    private static void state() {
        freshWithTask("15 state");
        due("runs", x.state(1), 1);
        due("wait", x.event(1, 0, 0), 2);
        due("waits", x.state(1), 2);
        due("start", x.start(1, 1, 0), 2);
        due("queued", x.state(2), 0);
        due("purge", x.purge(1), 1);
        due("end", x.event(2, 2, 0), 3);
        due("start", x.start(1, 1, 0), 3);
        due("abend", x.condition(3, 1), -1001);
        dueStates(5, 3, 4);
        due("state(4)", x.state(4), -2);
        due("state(0)", x.state(0), -2);
        due("state(-1)", x.state(-1), -2);
        due("state least", x.state(LEAST), -2);
        due("state most", x.state(MOST), -2);
    }

    private static void dueTold(int task, int... told) {
        for (int what = 0; what < told.length; what++) {
            due("told(" + task + ", " + what + ")", x.told(task, what), told[what]);
        }
        for (int what : new int[] {-1, 6, LEAST, MOST}) {
            due("told(" + task + ", " + what + ")", x.told(task, what), NONE);
        }
    }

    private static void told() {
        freshWithTask("16 told");
        due("code", x.code(8, 2, 0), 2);
        due("terminal", x.terminal(), 2);
        due("start", x.start(2, 2, 9), 2);
        due("start", x.start(2, 0, 0), 3);
        dueTold(1, 1, 7, 0, 1, 1, NONE);
        dueTold(2, 0, NONE, 0, 2, 2, NONE);
        dueTold(3, 1, 8, 0, 2, 0, NONE);
        due("link", x.link(1, 44), 2);
        due("storage", x.storage(1, 6), 6);
        due("wait", x.event(1, 0, 11), 2);
        dueTold(1, 2, 44, 6, 1, 1, 11);
        due("purge", x.purge(1), 1);
        dueTold(1, 0, NONE, 0, 1, 1, NONE);
        due("end", x.back(3, 0, 0), 1);
        dueTold(3, 0, NONE, 0, 2, 0, NONE);
        dueTold(4, NONE, NONE, NONE, NONE, NONE, NONE);
        dueTold(0, NONE, NONE, NONE, NONE, NONE, NONE);
        dueTold(-1, NONE, NONE, NONE, NONE, NONE, NONE);
        dueTold(LEAST, NONE, NONE, NONE, NONE, NONE, NONE);
    }

    private static void owner() {
        fresh("17 owner");
        due("code", x.code(0, 0, 0), 1);
        due("no terminal", x.owner(1), -2);
        due("terminal", x.terminal(), 1);
        due("terminal", x.terminal(), 2);
        due("start later", x.start(1, 2, 5), 1);
        due("queued ones don't own", x.owner(2), 0);
        due("start", x.start(1, 2, 0), 2);
        due("start without a terminal", x.start(1, 0, 0), 3);
        due("owner(1)", x.owner(1), 0);
        due("owner(2)", x.owner(2), 2);
        due("wait", x.event(2, 0, 0), 2);
        due("one that waits", x.owner(2), 2);
        due("tick", x.tick(5), 0);
        due("purge", x.purge(2), 1);
        due("the next one", x.owner(2), 1);
        due("end", x.event(1, 2, 0), 3);
        due("none", x.owner(2), 0);
        due("owner(0)", x.owner(0), -2);
        due("owner(3)", x.owner(3), -2);
        due("owner(-1)", x.owner(-1), -2);
        due("owner least", x.owner(LEAST), -2);
        due("owner most", x.owner(MOST), -2);
    }

    private static void count() {
        fresh("18 count");
        for (int cls = 0; cls <= 9; cls++) {
            due("code", x.code(0, cls, 0), cls + 1);
        }
        for (int n = 1; n <= 3; n++) {
            due("terminal", x.terminal(), n);
        }
        int task = 0;
        for (int cls = 0; cls <= 9; cls++) {
            for (int i = 0; i <= cls; i++) {
                task++;
                due("start", x.start(cls + 1, 0, 0), task);
            }
        }
        due("start later", x.start(1, 0, 9), 56);
        due("wait", x.event(55, 0, 0), 2);
        due("end", x.event(54, 2, 0), 3);
        due("storage", x.storage(55, 3), 3);
        due("storage", x.storage(1, 4), 4);
        int[] want = {10, 3, 56, 1, 54, 7};
        for (int what = 0; what < want.length; what++) {
            due("count(" + what + ")", x.count(what), want[what]);
        }
        for (int cls = 0; cls <= 8; cls++) {
            due("count(" + (10 + cls) + ")", x.count(10 + cls), cls + 1);
        }
        due("count(19)", x.count(19), 9);
        for (int what : new int[] {-1, 6, 7, 8, 9, 20, LEAST, LEAST + 10, MOST, MOST - 9}) {
            due("count(" + what + ")", x.count(what), NONE);
        }
    }
}
