/**
 * Objects that a call can be tried on: an empty one, one with tasks in every state, one that is full
 * but for tasks, and a full one.
 */
enum Scene {
    EMPTY(0, 0, 0),
    BUSY(4, 4, 15),
    ROOM_FOR_TASKS(60, 20, 20),
    FULL(60, 20, 200);

    /** Times at which something in a scene stands or may start, and those next to them. */
    static final long[] MARKS = {
        Long.MIN_VALUE, -1, 0, 1, 99, 100, 101, Long.MAX_VALUE - 1, Long.MAX_VALUE};

    /** A terminal without an active task, where there are terminals and room for tasks. */
    static final int FREE_TERMINAL = 3;

    /** The task of the full object that is at level 10. */
    static final int DEEPEST_OF_FULL = 58;

    final int codes;
    final int terminals;
    final int tasks;

    Scene(int codes, int terminals, int tasks) {
        this.codes = codes;
        this.terminals = terminals;
        this.tasks = tasks;
    }

    TaskStates2 make() {
        TaskStates2 x = new TaskStates2();
        if (this == BUSY) {
            fillBusy(x);
        } else if (this == ROOM_FOR_TASKS) {
            fillButForTasks(x);
        } else if (this == FULL) {
            fillFull(x);
        }
        return x;
    }

    /**
     * Tasks 1, 2, 9 and 14 run (at levels 1, 10, 1, 2), 3 and 15 wait (for events 15 and 0), 4 ended,
     * 5 abended, 6 and 7 were purged; 8 is queued for terminal 1, 10 and 11 for their class's limit,
     * 12 and 13 for the times 101 and the greatest. Terminal 3 keeps next code 4 and area 9999.
     */
    private static void fillBusy(TaskStates2 x) {
        x.code(7, 0, 5);
        x.code(99, 9, 255);
        x.code(0, 1, 0);
        x.code(50, 2, 9);
        for (int n = 1; n <= 4; n++) {
            x.terminal();
        }
        x.limit(1, 1);
        x.limit(2, 0);
        x.limit(3, 7);
        x.tick(100);
        x.start(1, 1, 0);
        x.start(2, 0, 100);
        x.start(1, 2, 0);
        x.start(1, 3, 0);
        x.start(1, 0, 0);
        x.start(1, 0, 0);
        x.start(1, 0, Long.MAX_VALUE);
        x.start(1, 1, 0);
        x.start(3, 0, 0);
        x.start(3, 0, 0);
        x.start(4, 4, 50);
        x.start(2, 0, 101);
        x.start(2, 0, Long.MAX_VALUE);
        x.start(1, 4, 0);
        x.start(2, 0, 0);
        runBusyTasks(x);
    }

    private static void runBusyTasks(TaskStates2 x) {
        x.handle(1, 0, 10);
        x.handle(1, 9, 9999);
        for (int i = 0; i < 3; i++) {
            x.storage(1, 10000);
        }
        for (int level = 2; level <= 10; level++) {
            x.handle(2, level - 1, 10 * level);
            x.link(2, level);
        }
        x.handle(2, 3, 33);
        x.storage(2, 10000);
        x.storage(2, 10000);
        x.storage(2, 9999);
        x.link(3, 12);
        x.handle(3, 5, 55);
        x.storage(3, 1);
        x.event(3, 0, 15);
        x.back(4, 4, 9999);
        x.condition(5, 5);
        x.event(6, 0, 7);
        x.purge(6);
        x.purge(7);
        x.handle(14, 2, 22);
        x.link(14, 13);
        x.event(15, 0, 0);
    }

    private static void codesAndTerminals(TaskStates2 x) {
        for (int n = 1; n <= 60; n++) {
            x.code(n, n % 10, n % 7);
        }
        for (int n = 1; n <= 20; n++) {
            x.terminal();
        }
    }

    /** The terminals 1 to 20 keep the next codes 41 to 60 and the areas 1 to 20. */
    private static void fillButForTasks(TaskStates2 x) {
        codesAndTerminals(x);
        for (int n = 1; n <= 20; n++) {
            x.start(n, n, 0);
            x.back(n, 40 + n, n);
        }
    }

    /**
     * Task 1 ended and left next code 60 and area 1 at terminal 20. Tasks 2 to 57 are of class 0, of
     * which 50 run; 58 to 77 run at the terminals 1 to 20, 78 to 97 are queued for these, the others
     * for the time 100. Task 58 is at level 10 with storage 30000, 59 waits for event 3.
     */
    private static void fillFull(TaskStates2 x) {
        codesAndTerminals(x);
        x.start(60, 20, 0);
        x.back(1, 60, 1);
        for (int n = 2; n <= 57; n++) {
            x.start(10, 0, 0);
        }
        for (int n = 58; n <= 97; n++) {
            x.start(1 + n % 9, (n - 58) % 20 + 1, 0);
        }
        for (int n = 98; n <= 200; n++) {
            x.start(n % 60 + 1, n % 21, 100);
        }
        for (int level = 2; level <= 10; level++) {
            x.link(58, level);
        }
        x.handle(58, 1, 11);
        for (int i = 0; i < 3; i++) {
            x.storage(58, 10000);
        }
        x.event(59, 0, 3);
    }
}
