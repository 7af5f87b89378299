/**
 * The last values that each sentence of the document takes, on either side, and what they do; the
 * first ones that it refuses are in RefusedTest too, with what they must leave alone.
 */
public final class EdgesTest {
    private static final int NONE = TaskStates2.NONE;
    private static final int LEAST = Integer.MIN_VALUE;
    private static final int MOST = Integer.MAX_VALUE;
    private static final int ENDED = 3;

    private static final Due DUE = new Due("edges");
    private static TaskStates2 x;

    private EdgesTest() {
    }

    public static void main(String[] args) {
        scenes();
        empty();
        atFirst();
        codeEdges();
        sixtyCodes();
        twentyTerminals();
        startEdges();
        startWhen();
        nextCodeIsNoneThen();
        twoHundredTasks();
        timeHasCome();
        noOtherActiveTask();
        fewerThanTheLimit();
        greaterPriorityFirst();
        lesserNumberFirst();
        allThatMayStart();
        oneByOne();
        eventEdges();
        eventEndsWithAnyValue();
        linkEdges();
        backFromEachLevel();
        backEdges();
        backKeepsOnlyAtLevelOne();
        storageEdges();
        storageOfEachTask();
        storageTillActiveNoMore();
        limitEdges();
        activeTasksStay();
        limitLetsStart();
        tickEdges();
        purgeEdges();
        handleEdges();
        handleByLevelAlone();
        conditionEdges();
        conditionZero();
        toldEdges();
        ownerEdges();
        countEdges();
        DUE.end();
    }

    private static void fresh(String part) {
        DUE.part(part);
        x = new TaskStates2();
    }

    private static void due(String call, long got, long want) {
        DUE.is(call, got, want);
    }

    private static void dueStates(int... states) {
        for (int i = 0; i < states.length; i++) {
            due("state(" + (i + 1) + ")", x.state(i + 1), states[i]);
        }
    }

    /** As many codes of class 0 as there are priorities, each with its own number as program. */
    private static void codesOf(int... priorities) {
        for (int i = 0; i < priorities.length; i++) {
            due("code", x.code(i + 1, 0, priorities[i]), i + 1);
        }
    }

    private static void terminals(int n) {
        for (int i = 1; i <= n; i++) {
            due("terminal", x.terminal(), i);
        }
    }

    /** RefusedTest leans on these: each scene holds what its words say. */
    private static void scenes() {
        DUE.part("scenes");
        x = Scene.BUSY.make();
        dueStates(1, 1, 2, 3, 4, 5, 5, 0, 1, 0, 0, 0, 0, 1, 2);
        int[] levels = {1, 10, 2, 0, 0, 0, 0, 0, 1, 0, 0, 0, 0, 2, 1};
        int[] storage = {30000, 29999, 1, 0, 0, 0, 0, 0, 0, 0, 0, 0, 0, 0, 0};
        for (int i = 0; i < levels.length; i++) {
            due("told(" + (i + 1) + ", 0)", x.told(i + 1, 0), levels[i]);
            due("told(" + (i + 1) + ", 2)", x.told(i + 1, 2), storage[i]);
        }
        due("area(3)", x.area(3), 9999);
        due("count(5)", x.count(5), 60000);
        x = Scene.ROOM_FOR_TASKS.make();
        due("count(0)", x.count(0), 60);
        due("count(1)", x.count(1), 20);
        due("count(2)", x.count(2), 20);
        due("count(4)", x.count(4), 0);
        due("area(20)", x.area(20), 20);
        x = Scene.FULL.make();
        int[] counts = {60, 20, 200, 129, 70, 30000};
        for (int what = 0; what < counts.length; what++) {
            due("count(" + what + ")", x.count(what), counts[what]);
        }
        due("told(58, 0)", x.told(58, 0), 10);
        due("told(59, 5)", x.told(59, 5), 3);
        due("area(20)", x.area(20), 1);
        for (int n = 1; n <= 20; n++) {
            due("owner(" + n + ")", x.owner(n), 57 + n);
        }
        due("tick(100)", x.tick(100), 4);
    }

    private static void empty() {
        fresh("1: no codes, terminals, tasks");
        for (int what = 0; what <= 19; what++) {
            due("count(" + what + ")", x.count(what), what < 6 || what > 9 ? 0 : NONE);
        }
        due("start(1, 0, 0)", x.start(1, 0, 0), -2);
        due("area(1)", x.area(1), -2);
        due("owner(1)", x.owner(1), -2);
        due("state(1)", x.state(1), -2);
        due("tick(greatest)", x.tick(Long.MAX_VALUE), 0);
        due("limit(0, 0)", x.limit(0, 0), 50);
        due("the first code", x.code(0, 0, 0), 1);
        due("the first terminal", x.terminal(), 1);
        due("the first task", x.start(1, 1, 0), 1);
    }

    private static void atFirst() {
        fresh("Terms: what is so at first");
        for (int cls = 0; cls <= 9; cls++) {
            due("limit(" + cls + ", 50)", x.limit(cls, 50), 50);
        }
        due("tick(-1)", x.tick(-1), -4);
        due("tick(0)", x.tick(0), 0);
        codesOf(1);
        terminals(1);
        due("area(1)", x.area(1), 0);
        due("next code", x.start(0, 1, 0), -2);
        due("start at time 0", x.start(1, 1, 0), 1);
        due("start at time 1", x.start(1, 0, 1), 2);
        dueStates(1, 0);
        due("storage", x.told(1, 2), 0);
        for (int kind = 0; kind <= 9; kind++) {
            due("handle(1, " + kind + ", 0)", x.handle(1, kind, 0), 0);
        }
    }

    private static void codeEdges() {
        fresh("2: program 0 .. 99, class 0 .. 9, priority 0 .. 255");
        int[][] taken = {{0, 5, 5}, {99, 5, 5}, {5, 0, 5}, {5, 9, 5}, {5, 5, 0}, {5, 5, 255}, {0, 0, 0}, {99, 9, 255}};
        for (int i = 0; i < taken.length; i++) {
            int[] c = taken[i];
            due("code(" + c[0] + ", " + c[1] + ", " + c[2] + ")", x.code(c[0], c[1], c[2]), i + 1);
        }
        int[][] refused = {{-1, 5, 5}, {100, 5, 5}, {5, -1, 5}, {5, 10, 5}, {5, 5, -1}, {5, 5, 256}};
        for (int[] c : refused) {
            due("code(" + c[0] + ", " + c[1] + ", " + c[2] + ")", x.code(c[0], c[1], c[2]), -4);
        }
        for (int code = 1; code <= taken.length; code++) {
            int before = x.count(10 + taken[code - 1][1]);
            due("start(" + code + ", 0, 0)", x.start(code, 0, 0), code);
            due("its program", x.told(code, 1), taken[code - 1][0]);
            due("its class", x.count(10 + taken[code - 1][1]), before + 1);
        }
    }

    private static void sixtyCodes() {
        fresh("2: NONE when there are 60");
        for (int n = 1; n <= 59; n++) {
            due("code " + n, x.code(n, n % 10, n), n);
        }
        due("start of no 60th", x.start(60, 0, 0), -2);
        due("the 60th", x.code(60, 0, 60), 60);
        due("a 61st", x.code(61, 1, 61), NONE);
        due("a 61st again", x.code(61, 1, 61), NONE);
        due("a wrong 61st", x.code(100, 1, 61), -4);
        due("count(0)", x.count(0), 60);
        due("start of the 60th", x.start(60, 0, 0), 1);
        due("its program", x.told(1, 1), 60);
        due("its code", x.told(1, 3), 60);
        due("start of no 61st", x.start(61, 0, 0), -2);
        due("terminals are counted apart", x.terminal(), 1);
        for (int n = 1; n <= 60; n++) {
            due("start of each", x.start(n, 1, 0), n + 1);
        }
        // Each code's priority is its own number; the first task came when there was no other.
        for (int i = 0; i < 60; i++) {
            int code = i == 0 ? 1 : 61 - i;
            due("the next by priority", x.owner(1), code + 1);
            due("its program", x.told(code + 1, 1), code);
            due("its class", x.count(10 + code % 10), code % 10 == 0 ? 2 : 1);
            due("its end", x.event(code + 1, 2, 0), ENDED);
        }
    }

    private static void twentyTerminals() {
        fresh("3: NONE when there are 20");
        codesOf(1);
        terminals(19);
        due("start at no 20th", x.start(1, 20, 0), -2);
        due("area of no 20th", x.area(20), -2);
        due("owner of no 20th", x.owner(20), -2);
        due("the 20th", x.terminal(), 20);
        due("a 21st", x.terminal(), NONE);
        due("a 21st again", x.terminal(), NONE);
        due("count(1)", x.count(1), 20);
        due("start at the 20th", x.start(1, 20, 0), 1);
        due("its owner", x.owner(20), 1);
        due("its task's terminal", x.told(1, 4), 20);
        due("back", x.back(1, 1, 77), 1);
        due("its area", x.area(20), 77);
        due("area of another", x.area(19), 0);
        due("start at no 21st", x.start(1, 21, 0), -2);
        due("codes are counted apart", x.code(0, 0, 0), 2);
        for (int n = 1; n <= 20; n++) {
            due("start at each", x.start(1, n, 0), n + 1);
            due("back", x.back(n + 1, n % 2 + 1, 100 + n), 1);
        }
        due("a 21st, when each keeps something", x.terminal(), NONE);
        for (int n = 1; n <= 20; n++) {
            due("owner(" + n + ")", x.owner(n), 0);
            due("area(" + n + ")", x.area(n), 100 + n);
            due("its next code", x.start(0, n, 0), n + 21);
            due("its next code", x.told(n + 21, 3), n % 2 + 1);
            due("owner(" + n + ")", x.owner(n), n + 21);
        }
    }

    private static void startEdges() {
        fresh("4: no such code or terminal");
        codesOf(1, 2, 3);
        terminals(2);
        due("the first code", x.start(1, 0, 0), 1);
        due("the last code", x.start(3, 0, 0), 2);
        due("one more", x.start(4, 0, 0), -2);
        due("one less", x.start(-1, 0, 0), -2);
        due("the first terminal", x.start(1, 1, 0), 3);
        due("the last terminal", x.start(1, 2, 0), 4);
        due("one more", x.start(1, 3, 0), -2);
        due("one less", x.start(1, -1, 0), -2);
        due("count(2)", x.count(2), 4);
        due("code of 2", x.told(2, 3), 3);
        due("terminal of 1", x.told(1, 4), 0);
        due("terminal of 3", x.told(3, 4), 1);
        due("terminal of 4", x.told(4, 4), 2);
    }

    private static void startWhen() {
        fresh("4: -4 when is below 0");
        codesOf(1);
        due("when -1", x.start(1, 0, -1), -4);
        due("when least", x.start(1, 0, Long.MIN_VALUE), -4);
        due("when 0", x.start(1, 0, 0), 1);
        due("when greatest", x.start(1, 0, Long.MAX_VALUE), 2);
        due("when above all ints", x.start(1, 0, 1L << 32), 3);
        dueStates(1, 0, 0);
        due("tick of the greatest int", x.tick(MOST), 0);
        due("tick before it", x.tick((1L << 32) - 1), 0);
        due("tick above all ints", x.tick(1L << 32), 1);
        dueStates(1, 0, 1);
        due("tick before the greatest", x.tick(Long.MAX_VALUE - 1), 0);
        due("tick of the greatest", x.tick(Long.MAX_VALUE), 1);
        dueStates(1, 1, 1);
        due("when 0, long passed", x.start(1, 0, 0), 4);
        due("when greatest, which is now", x.start(1, 0, Long.MAX_VALUE), 5);
        dueStates(1, 1, 1, 1, 1);
        due("when -1, still", x.start(1, 0, -1), -4);
    }

    private static void nextCodeIsNoneThen() {
        fresh("4: code 0: the terminal's next code, which is none then");
        codesOf(1, 2, 3);
        terminals(2);
        due("start", x.start(1, 1, 0), 1);
        due("start", x.start(2, 2, 0), 2);
        due("back with the last code", x.back(1, 3, 5), 1);
        due("back with the first code", x.back(2, 1, 6), 1);
        due("code 0 without a terminal", x.start(0, 0, 0), -2);
        due("a refused one leaves it", x.start(0, 1, -1), -4);
        due("the next code of 1", x.start(0, 1, Long.MAX_VALUE), 3);
        due("it is queued", x.state(3), 0);
        due("its code", x.told(3, 3), 3);
        due("none then", x.start(0, 1, 0), -2);
        due("the area is still kept", x.area(1), 5);
        due("the next code of 2", x.start(0, 2, 0), 4);
        due("its code", x.told(4, 3), 1);
        due("its program", x.told(4, 1), 1);
        due("none then", x.start(0, 2, 0), -2);
        due("a code by its number needs no next one", x.start(2, 2, 0), 5);
        due("back keeps a next code again", x.back(4, 2, 0), 1);
        due("the next code of 2", x.start(0, 2, 0), 6);
        due("its code", x.told(6, 3), 2);
    }

    private static void twoHundredTasks() {
        fresh("4: NONE when there are 200");
        codesOf(1);
        terminals(1);
        due("start", x.start(1, 1, 0), 1);
        due("back", x.back(1, 1, 0), 1);
        for (int n = 2; n <= 199; n++) {
            due("start " + n, x.start(1, 0, 1), n);
        }
        due("no 200th", x.state(200), -2);
        due("the 200th", x.start(1, 1, 0), 200);
        due("its state", x.state(200), 1);
        due("a 201st", x.start(1, 0, 0), NONE);
        due("a 201st, of the next code", x.start(0, 1, 0), NONE);
        due("which is still there", x.start(0, 1, 0), NONE);
        due("no 201st", x.state(201), -2);
        due("count(2)", x.count(2), 200);
        due("end of the 200th", x.event(200, 2, 0), ENDED);
        due("purge of the 199th", x.purge(199), 1);
        due("ended tasks are tasks still", x.start(1, 0, 0), NONE);
        due("tick", x.tick(1), 50);
        due("the last that starts", x.state(51), 1);
        due("the first that doesn't", x.state(52), 0);
        due("a task that ends lets one start", x.event(2, 2, 0), ENDED);
        due("the next", x.state(52), 1);
        due("the one after", x.state(53), 0);
    }

    private static void timeHasCome() {
        fresh("Terms: when its time has come");
        codesOf(1);
        due("tick", x.tick(10), 0);
        due("a time that has passed", x.start(1, 0, 9), 1);
        due("the time that is", x.start(1, 0, 10), 2);
        due("the time after", x.start(1, 0, 11), 3);
        dueStates(1, 1, 0);
        due("the same time again", x.tick(10), 0);
        dueStates(1, 1, 0);
        due("the time after", x.tick(11), 1);
        dueStates(1, 1, 1);
    }

    private static void noOtherActiveTask() {
        fresh("Terms: its terminal has no other active task");
        codesOf(1);
        terminals(2);
        for (int n = 1; n <= 5; n++) {
            due("start", x.start(1, 1, 0), n);
        }
        due("start at another terminal", x.start(1, 2, 0), 6);
        due("start at none", x.start(1, 0, 0), 7);
        due("start at none", x.start(1, 0, 0), 8);
        dueStates(1, 0, 0, 0, 0, 1, 1, 1);
        due("one that waits is active", x.event(1, 0, 0), 2);
        dueStates(2, 0, 0, 0, 0, 1, 1, 1);
        due("a limit", x.limit(0, 49), 50);
        due("a time", x.tick(1), 0);
        due("an end elsewhere", x.event(6, 2, 0), ENDED);
        dueStates(2, 0, 0, 0, 0, 3, 1, 1);
        due("purged", x.purge(1), 1);
        dueStates(5, 1, 0, 0, 0, 3, 1, 1);
        due("ended by an event", x.event(2, 2, 0), ENDED);
        dueStates(5, 3, 1, 0, 0, 3, 1, 1);
        due("ended by back", x.back(3, 0, 0), 1);
        dueStates(5, 3, 3, 1, 0, 3, 1, 1);
        due("abended", x.condition(4, 0), -1000);
        dueStates(5, 3, 3, 4, 1, 3, 1, 1);
    }

    private static void fewerThanTheLimit() {
        fresh("Terms: fewer active tasks than its limit");
        due("code", x.code(0, 0, 0), 1);
        due("code of another class", x.code(0, 9, 0), 2);
        for (int n = 1; n <= 52; n++) {
            due("start", x.start(1, 0, 0), n);
        }
        due("the 50th", x.state(50), 1);
        due("the 51st", x.state(51), 0);
        due("count(10)", x.count(10), 50);
        due("another class", x.start(2, 0, 0), 53);
        due("another class runs", x.state(53), 1);
        due("one that waits is active", x.event(7, 0, 0), 2);
        due("the 51st", x.state(51), 0);
        due("an end in another class", x.event(53, 2, 0), ENDED);
        due("the 51st", x.state(51), 0);
        due("an abend", x.condition(8, 9), -1009);
        due("the 51st", x.state(51), 1);
        due("the 52nd", x.state(52), 0);
        due("a purge", x.purge(7), 1);
        due("the 52nd", x.state(52), 1);
        due("count(10)", x.count(10), 50);
        due("limit 0", x.limit(9, 0), 50);
        due("a class of limit 0", x.start(2, 0, 0), 54);
        due("it is queued", x.state(54), 0);
        due("limit 1", x.limit(9, 1), 0);
        due("it runs", x.state(54), 1);
    }

    private static void greaterPriorityFirst() {
        fresh("Terms: of several the one with the greater priority");
        due("limit", x.limit(0, 0), 50);
        codesOf(0, 254, 255, 1);
        for (int n = 1; n <= 4; n++) {
            due("start", x.start(n, 0, 0), n);
        }
        due("limit", x.limit(0, 1), 0);
        dueStates(0, 0, 1, 0);
        due("limit", x.limit(0, 2), 1);
        dueStates(0, 1, 1, 0);
        due("end", x.event(3, 2, 0), ENDED);
        dueStates(0, 1, 3, 1);
        due("end", x.event(2, 2, 0), ENDED);
        dueStates(1, 3, 3, 1);
    }

    private static void lesserNumberFirst() {
        fresh("Terms: then the lesser number");
        due("limit", x.limit(0, 0), 50);
        codesOf(7, 7, 7);
        // Neither the code's number nor the time that has passed counts.
        due("start", x.start(3, 0, 2), 1);
        due("start", x.start(2, 0, 1), 2);
        due("start", x.start(1, 0, 0), 3);
        due("tick", x.tick(5), 0);
        for (int n = 1; n <= 3; n++) {
            due("limit", x.limit(0, n), n - 1);
            dueStates(1, n >= 2 ? 1 : 0, n >= 3 ? 1 : 0);
        }
    }

    private static void allThatMayStart() {
        fresh("Terms: all that may start");
        codesOf(3, 200);
        terminals(3);
        due("limit", x.limit(0, 0), 50);
        int[] at = {1, 1, 0, 2, 0};
        for (int i = 0; i < at.length; i++) {
            due("start", x.start(1, at[i], 0), i + 1);
        }
        due("start of a greater priority, later", x.start(2, 3, 9), 6);
        due("start of a greater priority at terminal 1", x.start(2, 1, 0), 7);
        due("limit", x.limit(0, 50), 0);
        // Task 7 takes terminal 1 from tasks 1 and 2; task 6 waits for its time.
        dueStates(0, 0, 1, 1, 1, 0, 1);
        due("tick", x.tick(9), 1);
        due("end", x.event(7, 2, 0), ENDED);
        dueStates(1, 0, 1, 1, 1, 1, 3);
    }

    private static void oneByOne() {
        fresh("Terms: one by one, so that one that starts may hold back the next");
        due("code", x.code(1, 1, 9), 1);
        due("code", x.code(2, 2, 8), 2);
        due("code", x.code(3, 1, 7), 3);
        terminals(2);
        due("limit", x.limit(1, 1), 50);
        due("start", x.start(3, 2, 5), 1);
        due("start", x.start(2, 1, 5), 2);
        due("start", x.start(1, 1, 5), 3);
        due("start", x.start(2, 2, 5), 4);
        // 3 is first and takes terminal 1 and class 1; 2 and 1 are held back by it; 4 may start.
        due("tick", x.tick(5), 2);
        dueStates(0, 0, 1, 1);
        due("owner(1)", x.owner(1), 3);
        due("owner(2)", x.owner(2), 4);
        due("end", x.event(3, 2, 0), ENDED);
        dueStates(0, 1, 3, 1);
        due("end", x.event(4, 2, 0), ENDED);
        dueStates(1, 1, 3, 3);
    }

    private static void eventEdges() {
        fresh("5: events 0 .. 15");
        codesOf(1);
        due("start", x.start(1, 0, 0), 1);
        for (int v = 0; v <= 15; v++) {
            due("wait for " + v, x.event(1, 0, v), 2);
            due("told(1, 5)", x.told(1, 5), v);
            due("the one after comes", x.event(1, 1, (v + 1) % 16), -5);
            due("the one before comes", x.event(1, 1, (v + 15) % 16), -5);
            due("told(1, 5)", x.told(1, 5), v);
            due("it comes", x.event(1, 1, v), 1);
            due("told(1, 5)", x.told(1, 5), NONE);
            due("it comes again", x.event(1, 1, v), -5);
        }
        for (int v : new int[] {LEAST, -1, 16, MOST}) {
            due("wait for " + v, x.event(1, 0, v), -4);
            due("comes " + v, x.event(1, 1, v), -4);
        }
        for (int kind : new int[] {LEAST, -1, 3, MOST}) {
            due("kind " + kind, x.event(1, kind, 0), -4);
        }
        dueStates(1);
    }

    private static void eventEndsWithAnyValue() {
        fresh("5: v counts for kinds 0 and 1 alone");
        codesOf(1);
        int task = 0;
        for (int v : new int[] {LEAST, -1, 0, 15, 16, MOST}) {
            task++;
            due("start", x.start(1, 0, 0), task);
            due("event(" + task + ", 2, " + v + ")", x.event(task, 2, v), ENDED);
            due("again", x.event(task, 2, v), -5);
        }
    }

    private static void linkEdges() {
        fresh("6: NONE when it is at level 10");
        codesOf(1);
        due("start", x.start(1, 0, 0), 1);
        due("program -1", x.link(1, -1), -4);
        due("program 100", x.link(1, 100), -4);
        for (int level = 2; level <= 10; level++) {
            int program = level % 2 == 0 ? 0 : 99;
            due("link(1, " + program + ")", x.link(1, program), level);
            due("told(1, 0)", x.told(1, 0), level);
            due("told(1, 1)", x.told(1, 1), program);
        }
        due("to level 11", x.link(1, 5), NONE);
        due("to level 11", x.link(1, 5), NONE);
        due("a wrong program to level 11", x.link(1, 100), -4);
        due("told(1, 0)", x.told(1, 0), 10);
        due("told(1, 1)", x.told(1, 1), 0);
        due("back to level 9", x.back(1, 0, 0), 1);
        due("to level 10 again", x.link(1, 5), 10);
        due("told(1, 1)", x.told(1, 1), 5);
        due("another task starts at level 1", x.start(1, 0, 0), 2);
        due("its level", x.told(2, 0), 1);
        due("its first link", x.link(2, 5), 2);
    }

    private static void backFromEachLevel() {
        fresh("7: one level less above level 1; at level 1 it ends");
        codesOf(1);
        terminals(1);
        due("start", x.start(1, 1, 0), 1);
        for (int level = 2; level <= 10; level++) {
            due("link", x.link(1, 20 + level), level);
        }
        for (int level = 10; level >= 2; level--) {
            due("level", x.told(1, 0), level);
            due("program", x.told(1, 1), 20 + level);
            due("next at level " + level, x.back(1, 1, 0), 0);
            due("area at level " + level, x.back(1, 0, 1), 0);
            due("both at level " + level, x.back(1, 1, 1), 0);
            due("back from level " + level, x.back(1, 0, 0), 1);
            dueStates(1);
        }
        due("level", x.told(1, 0), 1);
        due("program", x.told(1, 1), 1);
        due("nothing is kept", x.area(1), 0);
        due("back at level 1", x.back(1, 1, 1), 1);
        dueStates(ENDED);
        due("level", x.told(1, 0), 0);
        due("back again", x.back(1, 0, 0), -5);
        due("area", x.area(1), 1);
    }

    private static void backEdges() {
        fresh("7: next is a code or 0, area 0 .. 9999");
        codesOf(1, 2, 3);
        terminals(1);
        int[][] taken = {{0, 9999}, {1, 0}, {3, 9999}, {3, 1}, {0, 0}};
        int task = 0;
        for (int[] k : taken) {
            task++;
            due("start", x.start(1, 1, 0), task);
            due("back with no code", x.back(task, 4, 0), -4);
            due("back with no code", x.back(task, -1, 0), -4);
            due("back with an area above", x.back(task, 1, 10000), -4);
            due("back with an area below", x.back(task, 1, -1), -4);
            dueKept(k[0] + ", " + k[1], x.back(task, k[0], k[1]), k);
            if (k[0] != 0) {
                task++;
            }
        }
    }

    private static void dueKept(String what, int answer, int[] kept) {
        due("back with " + what, answer, 1);
        due("area", x.area(1), kept[1]);
        int task = x.start(0, 1, 0);
        due("the kept code of " + what, task > 0 ? x.told(task, 3) : 0, kept[0]);
        due("its task", task > 0 ? x.event(task, 2, 0) : task, kept[0] == 0 ? -2 : ENDED);
        due("area", x.area(1), kept[1]);
    }

    private static void backKeepsOnlyAtLevelOne() {
        fresh("7: 0, nothing, at level 1 without a terminal");
        codesOf(1);
        terminals(1);
        due("start", x.start(1, 0, 0), 1);
        due("next", x.back(1, 1, 0), 0);
        due("area", x.back(1, 0, 1), 0);
        due("the greatest area", x.back(1, 0, 9999), 0);
        due("both", x.back(1, 1, 1), 0);
        dueStates(1);
        due("neither", x.back(1, 0, 0), 1);
        dueStates(ENDED);
        due("area(1)", x.area(1), 0);
        due("start", x.start(1, 1, 0), 2);
        due("both 0 at level 1 with a terminal", x.back(2, 0, 0), 1);
        dueStates(ENDED, ENDED);
        DUE.part("7: only back keeps a next code and an area");
        due("start", x.start(1, 1, 0), 3);
        due("back", x.back(3, 1, 8), 1);
        due("ended by an event", x.start(1, 1, 0), 4);
        due("ended by an event", x.event(4, 2, 0), ENDED);
        due("area(1)", x.area(1), 8);
        due("abended", x.start(1, 1, 0), 5);
        due("abended", x.condition(5, 1), -1001);
        due("area(1)", x.area(1), 8);
        due("purged", x.start(1, 1, Long.MAX_VALUE), 6);
        due("purged", x.purge(6), 1);
        due("area(1)", x.area(1), 8);
        due("the next code", x.start(0, 1, 0), 7);
    }

    private static void storageEdges() {
        fresh("9: n 0 .. 10000, at most 30000");
        codesOf(1);
        due("start", x.start(1, 0, 0), 1);
        due("0", x.storage(1, 0), 0);
        due("10000", x.storage(1, 10000), 10000);
        due("10001", x.storage(1, 10001), -4);
        due("-1", x.storage(1, -1), -4);
        due("least", x.storage(1, LEAST), -4);
        due("greatest", x.storage(1, MOST), -4);
        due("10000", x.storage(1, 10000), 20000);
        due("9999", x.storage(1, 9999), 29999);
        due("2", x.storage(1, 2), NONE);
        due("10000", x.storage(1, 10000), NONE);
        due("told(1, 2)", x.told(1, 2), 29999);
        due("1", x.storage(1, 1), 30000);
        due("1", x.storage(1, 1), NONE);
        due("0", x.storage(1, 0), 30000);
        due("told(1, 2)", x.told(1, 2), 30000);
        due("wait", x.event(1, 0, 0), 2);
        due("0 while it waits", x.storage(1, 0), 30000);
        due("1 while it waits", x.storage(1, 1), NONE);
        due("count(5)", x.count(5), 30000);
    }

    private static void storageOfEachTask() {
        fresh("9: each task has its own");
        codesOf(1);
        for (int task = 1; task <= 50; task++) {
            due("start", x.start(1, 0, 0), task);
            for (int i = 1; i <= 3; i++) {
                due("storage", x.storage(task, 10000), 10000 * i);
            }
            due("count(5)", x.count(5), 30000 * task);
        }
    }

    private static void storageTillActiveNoMore() {
        fresh("Terms: storage is counted till it is active no more");
        codesOf(1);
        for (int task = 1; task <= 4; task++) {
            due("start", x.start(1, 0, 0), task);
            due("storage", x.storage(task, task), task);
        }
        due("wait", x.event(4, 0, 0), 2);
        due("count(5), one waits", x.count(5), 10);
        due("ended by an event", x.event(1, 2, 0), ENDED);
        due("count(5)", x.count(5), 9);
        due("ended by back", x.back(2, 0, 0), 1);
        due("count(5)", x.count(5), 7);
        due("abended", x.condition(3, 3), -1003);
        due("count(5)", x.count(5), 4);
        due("purged", x.purge(4), 1);
        due("count(5)", x.count(5), 0);
        for (int task = 1; task <= 4; task++) {
            due("told(" + task + ", 2)", x.told(task, 2), 0);
            due("storage(" + task + ", 0)", x.storage(task, 0), -5);
        }
    }

    private static void limitEdges() {
        fresh("10: class 0 .. 9, limit 0 .. 50");
        for (int cls = 0; cls <= 9; cls++) {
            due("-1", x.limit(cls, -1), -4);
            due("51", x.limit(cls, 51), -4);
            due("0", x.limit(cls, 0), 50);
            due("50", x.limit(cls, 50), 0);
            due("its own", x.limit(cls, cls), 50);
        }
        for (int cls : new int[] {LEAST, -1, 10, MOST}) {
            due("limit(" + cls + ", 0)", x.limit(cls, 0), -4);
        }
        for (int cls = 0; cls <= 9; cls++) {
            due("limit(" + cls + ", 1)", x.limit(cls, 1), cls);
        }
    }

    private static void activeTasksStay() {
        fresh("10: active tasks stay");
        codesOf(1);
        for (int task = 1; task <= 4; task++) {
            due("start", x.start(1, 0, 0), task);
        }
        due("wait", x.event(1, 0, 0), 2);
        due("limit 0", x.limit(0, 0), 50);
        dueStates(2, 1, 1, 1);
        due("count(10)", x.count(10), 4);
        due("the event comes", x.event(1, 1, 0), 1);
        due("a new one", x.start(1, 0, 0), 5);
        due("limit 3", x.limit(0, 3), 0);
        due("end: 3 are active", x.event(1, 2, 0), ENDED);
        dueStates(3, 1, 1, 1, 0);
        due("end: 2 are active", x.event(2, 2, 0), ENDED);
        dueStates(3, 3, 1, 1, 1);
    }

    private static void limitLetsStart() {
        fresh("Terms: a limit that changes lets start");
        codesOf(1);
        due("limit", x.limit(0, 0), 50);
        for (int task = 1; task <= 5; task++) {
            due("start", x.start(1, 0, 0), task);
        }
        due("another class's limit", x.limit(1, 50), 50);
        due("count(10)", x.count(10), 0);
        due("a wrong limit", x.limit(0, 51), -4);
        due("count(10)", x.count(10), 0);
        due("limit 1", x.limit(0, 1), 0);
        due("count(10)", x.count(10), 1);
        due("limit 4", x.limit(0, 4), 1);
        due("count(10)", x.count(10), 4);
        due("limit 4 again", x.limit(0, 4), 4);
        due("count(10)", x.count(10), 4);
        dueStates(1, 1, 1, 1, 0);
    }

    private static void tickEdges() {
        fresh("11: -4 when t is before the time");
        codesOf(1);
        due("start", x.start(1, 0, 1), 1);
        due("start", x.start(1, 0, 2), 2);
        due("start", x.start(1, 0, 2), 3);
        due("start", x.start(1, 0, Long.MAX_VALUE), 4);
        due("tick(-1)", x.tick(-1), -4);
        due("tick(least)", x.tick(Long.MIN_VALUE), -4);
        due("tick(0)", x.tick(0), 0);
        due("tick(2)", x.tick(2), 3);
        due("tick(2) again", x.tick(2), 0);
        due("tick(1)", x.tick(1), -4);
        due("tick(0)", x.tick(0), -4);
        due("the time is still 2", x.start(1, 0, 2), 5);
        dueStates(1, 1, 1, 0, 1);
        due("tick(greatest - 1)", x.tick(Long.MAX_VALUE - 1), 0);
        due("tick(greatest)", x.tick(Long.MAX_VALUE), 1);
        due("tick(greatest) again", x.tick(Long.MAX_VALUE), 0);
        due("tick(greatest - 1)", x.tick(Long.MAX_VALUE - 1), -4);
        due("tick(least)", x.tick(Long.MIN_VALUE), -4);
        due("tick(0)", x.tick(0), -4);
        DUE.part("11: how many tasks started by it");
        x = new TaskStates2();
        codesOf(1);
        due("limit", x.limit(0, 2), 50);
        for (int task = 1; task <= 4; task++) {
            due("start", x.start(1, 0, 1), task);
        }
        due("as many as the limit lets", x.tick(1), 2);
        due("limit", x.limit(0, 3), 2);
        due("none: the limit started one", x.tick(2), 0);
        dueStates(1, 1, 1, 0);
    }

    private static void purgeEdges() {
        fresh("12: a task that is queued, or waits for an event");
        codesOf(1);
        terminals(1);
        due("start", x.start(1, 1, 0), 1);
        due("start", x.start(1, 1, 0), 2);
        due("start", x.start(1, 1, 0), 3);
        due("runs", x.purge(1), 0);
        due("queued", x.purge(2), 1);
        due("purged", x.purge(2), 0);
        dueStates(1, 5, 0);
        due("wait", x.event(1, 0, 15), 2);
        due("waits", x.purge(1), 1);
        dueStates(5, 5, 1);
        due("its event comes", x.event(1, 1, 15), -5);
        due("told(1, 5)", x.told(1, 5), NONE);
        due("end", x.event(3, 2, 0), ENDED);
        due("ended", x.purge(3), 0);
        due("a purged one never starts", x.tick(Long.MAX_VALUE), 0);
        due("start", x.start(1, 1, 0), 4);
        due("abend", x.condition(4, 0), -1000);
        due("abended", x.purge(4), 0);
        dueStates(5, 5, 3, 4);
        due("count(10)", x.count(10), 0);
    }

    private static void handleEdges() {
        fresh("13: conditions 0 .. 9, labels 1 .. 9999, 0 not any more");
        codesOf(1);
        due("start", x.start(1, 0, 0), 1);
        for (int kind = 0; kind <= 9; kind++) {
            due("label 1", x.handle(1, kind, 1), 0);
            due("label -1", x.handle(1, kind, -1), -4);
            due("label 10000", x.handle(1, kind, 10000), -4);
            due("label 9999", x.handle(1, kind, 9999), 1);
            due("it is raised", x.condition(1, kind), 9999);
            due("not any more", x.handle(1, kind, 0), 9999);
            due("not any more, again", x.handle(1, kind, 0), 0);
        }
        for (int kind : new int[] {LEAST, -1, 10, MOST}) {
            due("handle(1, " + kind + ", 1)", x.handle(1, kind, 1), -4);
            due("handle(1, " + kind + ", 0)", x.handle(1, kind, 0), -4);
        }
        due("9 isn't handled any more", x.condition(1, 9), -1009);
    }

    private static void handleByLevelAlone() {
        fresh("Terms: looked for at the task's level alone");
        codesOf(1);
        due("start", x.start(1, 0, 0), 1);
        due("label at level 1", x.handle(1, 5, 100), 0);
        for (int level = 2; level <= 10; level++) {
            due("link", x.link(1, 0), level);
            due("label at level " + level, x.handle(1, 5, 100 * level), 0);
            due("raised at level " + level, x.condition(1, 5), 100 * level);
        }
        for (int level = 9; level >= 1; level--) {
            due("back", x.back(1, 0, 0), 1);
            due("raised at level " + level, x.condition(1, 5), 100 * level);
        }
        due("all at level 1", x.handle(1, 0, 7), 0);
        due("link anew", x.link(1, 0), 2);
        due("a new level handles nothing", x.handle(1, 5, 0), 0);
        due("it abends", x.condition(1, 5), -1005);
        dueStates(4);
        due("another task", x.start(1, 0, 0), 2);
        due("it handles nothing", x.condition(2, 5), -1005);
    }

    private static void conditionEdges() {
        fresh("14: -1000 minus kind when the task abends");
        codesOf(1);
        for (int kind = 0; kind <= 9; kind++) {
            int task = kind + 1;
            due("start", x.start(1, 0, 0), task);
            due("kind -1", x.condition(task, -1), -4);
            due("kind 10", x.condition(task, 10), -4);
            due("kind least", x.condition(task, LEAST), -4);
            due("kind greatest", x.condition(task, MOST), -4);
            due("state", x.state(task), 1);
            due("kind " + kind, x.condition(task, kind), -1000 - kind);
            due("state", x.state(task), 4);
            due("again", x.condition(task, kind), -5);
        }
        due("count(4)", x.count(4), 0);
    }

    private static void conditionZero() {
        fresh("Terms: condition 0 is handled for all that aren't handled themselves");
        codesOf(1);
        due("start", x.start(1, 0, 0), 1);
        due("label of 0", x.handle(1, 0, 10), 0);
        due("label of 9", x.handle(1, 9, 19), 0);
        for (int kind = 0; kind <= 8; kind++) {
            due("condition(1, " + kind + ")", x.condition(1, kind), 10);
        }
        due("condition(1, 9)", x.condition(1, 9), 19);
        due("9 not any more", x.handle(1, 9, 0), 19);
        due("condition(1, 9)", x.condition(1, 9), 10);
        due("label of 9", x.handle(1, 9, 29), 0);
        due("0 not any more", x.handle(1, 0, 0), 10);
        due("condition(1, 9)", x.condition(1, 9), 29);
        due("0 isn't handled by others", x.condition(1, 0), -1000);
    }

    private static void dueTold(int task, int... told) {
        for (int what = 0; what <= 5; what++) {
            due("told(" + task + ", " + what + ")", x.told(task, what), told[what]);
        }
        for (int what : new int[] {LEAST, -1, 6, MOST}) {
            due("told(" + task + ", " + what + ")", x.told(task, what), NONE);
        }
    }

    private static void toldEdges() {
        fresh("16: 0 and NONE without");
        due("code", x.code(99, 0, 0), 1);
        due("code", x.code(0, 0, 0), 2);
        terminals(2);
        due("start", x.start(1, 2, 0), 1);
        due("start", x.start(2, 0, 0), 2);
        due("start", x.start(2, 2, 0), 3);
        dueTold(1, 1, 99, 0, 1, 2, NONE);
        dueTold(2, 1, 0, 0, 2, 0, NONE);
        dueTold(3, 0, NONE, 0, 2, 2, NONE);
        due("storage", x.storage(1, 10000), 10000);
        due("link", x.link(1, 0), 2);
        due("wait", x.event(1, 0, 0), 2);
        dueTold(1, 2, 0, 10000, 1, 2, 0);
        due("purge", x.purge(1), 1);
        dueTold(1, 0, NONE, 0, 1, 2, NONE);
        dueTold(3, 1, 0, 0, 2, 2, NONE);
        due("end", x.event(2, 2, 0), ENDED);
        dueTold(2, 0, NONE, 0, 2, 0, NONE);
        due("abend", x.condition(3, 0), -1000);
        dueTold(3, 0, NONE, 0, 2, 2, NONE);
        for (int task : new int[] {LEAST, -1, 0, 4, MOST}) {
            dueTold(task, NONE, NONE, NONE, NONE, NONE, NONE);
        }
    }

    private static void ownerEdges() {
        fresh("17: the active task of a terminal; 0 for none");
        codesOf(1);
        terminals(20);
        for (int n = 1; n <= 20; n++) {
            due("owner(" + (21 - n) + ")", x.owner(21 - n), 0);
            due("start", x.start(1, 21 - n, 0), n);
            due("owner(" + (21 - n) + ")", x.owner(21 - n), n);
        }
        due("a queued one", x.start(1, 20, 0), 21);
        due("owner(20)", x.owner(20), 1);
        due("wait", x.event(1, 0, 0), 2);
        due("owner(20), one that waits", x.owner(20), 1);
        due("purge", x.purge(1), 1);
        due("owner(20), the queued one", x.owner(20), 21);
        due("end", x.event(21, 2, 0), ENDED);
        due("owner(20)", x.owner(20), 0);
        due("abend", x.condition(20, 0), -1000);
        due("owner(1)", x.owner(1), 0);
        for (int n : new int[] {LEAST, -1, 0, 21, MOST}) {
            due("owner(" + n + ")", x.owner(n), -2);
            due("area(" + n + ")", x.area(n), -2);
        }
    }

    private static void countEdges() {
        fresh("18: 10 .. 19 active tasks of a class; NONE for others");
        for (int cls = 0; cls <= 9; cls++) {
            due("code", x.code(0, cls, 0), cls + 1);
        }
        int task = 0;
        for (int cls = 0; cls <= 9; cls++) {
            for (int i = 0; i < 20; i++) {
                task++;
                due("start", x.start(cls + 1, 0, i <= cls ? 0 : 1), task);
            }
        }
        for (int cls = 0; cls <= 9; cls++) {
            due("count(" + (10 + cls) + ")", x.count(10 + cls), cls + 1);
        }
        due("count(2)", x.count(2), 200);
        due("count(3)", x.count(3), 145);
        due("count(4)", x.count(4), 55);
        for (int what : new int[] {LEAST, LEAST + 10, -1, 6, 7, 8, 9, 20, MOST}) {
            due("count(" + what + ")", x.count(what), NONE);
        }
        due("tick", x.tick(1), 145);
        for (int cls = 0; cls <= 9; cls++) {
            due("count(" + (10 + cls) + ")", x.count(10 + cls), 20);
        }
        due("count(3)", x.count(3), 0);
        due("count(4), all of them", x.count(4), 200);
        due("storage of the first", x.storage(1, 10000), 10000);
        due("storage of the last", x.storage(200, 10000), 10000);
        due("count(5)", x.count(5), 20000);
        due("wait of the last", x.event(200, 0, 0), 2);
        due("count(19), one waits", x.count(19), 20);
        due("purge of the last", x.purge(200), 1);
        due("count(19)", x.count(19), 19);
        due("count(4)", x.count(4), 199);
        due("count(5)", x.count(5), 10000);
        due("count(2), it was one", x.count(2), 200);
    }
}
