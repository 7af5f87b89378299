/**
 * Tasks of a monitor: codes, terminals, classes with limits, and the tasks that queue, run, wait
 * and end among them.
 */
public final class TaskStates2 {
    public static final int NONE = -1;

    private static final int NO_SUCH = -2;
    private static final int NOT_SO = -4;
    private static final int NOT_NOW = -5;
    private static final int ABEND_BASE = -1000;

    private static final int QUEUED = 0;
    private static final int RUNS = 1;
    private static final int WAITS = 2;
    private static final int ENDED = 3;
    private static final int ABENDED = 4;
    private static final int PURGED = 5;

    private static final int MAX_CODES = 60;
    private static final int MAX_TERMINALS = 20;
    private static final int MAX_TASKS = 200;
    private static final int MAX_LEVEL = 10;
    private static final int CLASSES = 10;
    private static final int CONDITIONS = 10;
    private static final int ALL_CONDITIONS = 0;
    private static final int MAX_PROGRAM = 99;
    private static final int MAX_PRIORITY = 255;
    private static final int MAX_EVENT = 15;
    private static final int MAX_AREA = 9999;
    private static final int MAX_LABEL = 9999;
    private static final int MAX_LIMIT = 50;
    private static final int MAX_STORAGE_STEP = 10000;
    private static final int MAX_STORAGE = 30000;
    private static final int CLASS_COUNTS = 10;

    private final Code[] codes;
    private final Terminal[] terminals;
    private final Task[] tasks;
    private final int[] limits;
    private final int[] activeOfClass;
    private int codeCount;
    private int terminalCount;
    private int taskCount;
    private long time;

    public TaskStates2() {
        codes = new Code[MAX_CODES];
        terminals = new Terminal[MAX_TERMINALS];
        tasks = new Task[MAX_TASKS];
        limits = new int[CLASSES];
        activeOfClass = new int[CLASSES];
        for (int c = 0; c < CLASSES; c++) {
            limits[c] = MAX_LIMIT;
        }
    }

    public int code(int program, int cls, int priority) {
        if (!isProgram(program) || !isClass(cls) || !isWithin(priority, MAX_PRIORITY)) {
            return NOT_SO;
        }
        if (codeCount >= MAX_CODES) {
            return NONE;
        }
        codes[codeCount] = new Code(codeCount + 1, program, cls, priority);
        codeCount++;
        return codeCount;
    }

    public int terminal() {
        if (terminalCount >= MAX_TERMINALS) {
            return NONE;
        }
        terminals[terminalCount] = new Terminal(terminalCount + 1);
        terminalCount++;
        return terminalCount;
    }

    public int start(int code, int terminal, long when) {
        Terminal at = findTerminal(terminal);
        if (at == null && terminal != 0) {
            return NO_SUCH;
        }
        Code of = code == 0 ? nextCodeAt(at) : findCode(code);
        if (of == null) {
            return NO_SUCH;
        }
        if (when < 0) {
            return NOT_SO;
        }
        if (taskCount >= MAX_TASKS) {
            return NONE;
        }
        if (code == 0 && at != null) {
            at.next = 0;
        }
        tasks[taskCount] = new Task(taskCount + 1, of, at, when);
        taskCount++;
        startAllThatMay();
        return taskCount;
    }

    public int event(int task, int kind, int v) {
        Task t = findTask(task);
        if (t == null) {
            return NO_SUCH;
        }
        boolean valueCounts = kind != 2;
        if (!isWithin(kind, 2) || (valueCounts && !isWithin(v, MAX_EVENT))) {
            return NOT_SO;
        }
        if (kind == 1) {
            return wake(t, v);
        }
        if (t.state != RUNS) {
            return NOT_NOW;
        }
        if (kind == 0) {
            t.state = WAITS;
            t.event = v;
        } else {
            leave(t, ENDED);
        }
        return t.state;
    }

    public int link(int task, int program) {
        Task t = findTask(task);
        if (t == null) {
            return NO_SUCH;
        }
        if (!isProgram(program)) {
            return NOT_SO;
        }
        if (t.state != RUNS) {
            return NOT_NOW;
        }
        if (t.top.depth >= MAX_LEVEL) {
            return NONE;
        }
        t.top = new Level(program, t.top.depth + 1, t.top);
        return t.top.depth;
    }

    public int back(int task, int next, int area) {
        Task t = findTask(task);
        if (t == null) {
            return NO_SUCH;
        }
        boolean nextIsSo = next == 0 || findCode(next) != null;
        if (!nextIsSo || !isWithin(area, MAX_AREA)) {
            return NOT_SO;
        }
        if (t.state != RUNS) {
            return NOT_NOW;
        }
        Level below = t.top.below;
        boolean mayKeep = below == null && t.terminal != null;
        if (!mayKeep && (next != 0 || area != 0)) {
            return 0;
        }
        if (below != null) {
            t.top = below;
            return 1;
        }
        if (t.terminal != null) {
            t.terminal.next = next;
            t.terminal.area = area;
        }
        leave(t, ENDED);
        return 1;
    }

    public int area(int terminal) {
        Terminal at = findTerminal(terminal);
        return at == null ? NO_SUCH : at.area;
    }

    public int storage(int task, int n) {
        Task t = findTask(task);
        if (t == null) {
            return NO_SUCH;
        }
        if (!isWithin(n, MAX_STORAGE_STEP)) {
            return NOT_SO;
        }
        if (!t.isActive()) {
            return NOT_NOW;
        }
        if (t.storage + n > MAX_STORAGE) {
            return NONE;
        }
        t.storage += n;
        return t.storage;
    }

    public int limit(int cls, int n) {
        if (!isClass(cls) || !isWithin(n, MAX_LIMIT)) {
            return NOT_SO;
        }
        int was = limits[cls];
        limits[cls] = n;
        startAllThatMay();
        return was;
    }

    public int tick(long t) {
        if (t < time) {
            return NOT_SO;
        }
        time = t;
        return startAllThatMay();
    }

    public int purge(int task) {
        Task t = findTask(task);
        if (t == null) {
            return NO_SUCH;
        }
        if (t.state == QUEUED) {
            t.state = PURGED;
            return 1;
        }
        if (t.state == WAITS) {
            leave(t, PURGED);
            return 1;
        }
        return 0;
    }

    public int handle(int task, int kind, int label) {
        Task t = findTask(task);
        if (t == null) {
            return NO_SUCH;
        }
        if (!isCondition(kind) || !isWithin(label, MAX_LABEL)) {
            return NOT_SO;
        }
        if (t.state != RUNS) {
            return NOT_NOW;
        }
        int was = t.top.labels[kind];
        t.top.labels[kind] = label;
        return was;
    }

    public int condition(int task, int kind) {
        Task t = findTask(task);
        if (t == null) {
            return NO_SUCH;
        }
        if (!isCondition(kind)) {
            return NOT_SO;
        }
        if (t.state != RUNS) {
            return NOT_NOW;
        }
        int label = t.top.labelFor(kind);
        if (label != 0) {
            return label;
        }
        leave(t, ABENDED);
        return ABEND_BASE - kind;
    }

    public int state(int task) {
        Task t = findTask(task);
        return t == null ? NO_SUCH : t.state;
    }

    public int told(int task, int what) {
        Task t = findTask(task);
        if (t == null) {
            return NONE;
        }
        switch (what) {
            case 0:
                return t.isActive() ? t.top.depth : 0;
            case 1:
                return t.isActive() ? t.top.program : NONE;
            case 2:
                return t.storage;
            case 3:
                return t.code.number;
            case 4:
                return t.terminal == null ? 0 : t.terminal.number;
            case 5:
                return t.event;
            default:
                return NONE;
        }
    }

    public int owner(int terminal) {
        Terminal at = findTerminal(terminal);
        return at == null ? NO_SUCH : at.activeTask;
    }

    public int count(int what) {
        switch (what) {
            case 0:
                return codeCount;
            case 1:
                return terminalCount;
            case 2:
                return taskCount;
            case 3:
                return tasksInState(QUEUED);
            case 4:
                return tasksInState(RUNS) + tasksInState(WAITS);
            case 5:
                return allStorage();
            default:
                return activeTasksCounted(what);
        }
    }

    private int activeTasksCounted(int what) {
        // The range is tested before the subtraction, which could wrap round into it.
        if (what < CLASS_COUNTS || what >= CLASS_COUNTS + CLASSES) {
            return NONE;
        }
        return activeOfClass[what - CLASS_COUNTS];
    }

    private int tasksInState(int state) {
        int found = 0;
        for (int i = 0; i < taskCount; i++) {
            Task t = tasks[i];
            if (t != null && t.state == state) {
                found++;
            }
        }
        return found;
    }

    private int allStorage() {
        int sum = 0;
        for (int i = 0; i < taskCount; i++) {
            Task t = tasks[i];
            if (t != null) {
                sum += t.storage;
            }
        }
        return sum;
    }

    private static boolean isWithin(int value, int most) {
        return value >= 0 && value <= most;
    }

    private static boolean isProgram(int program) {
        return isWithin(program, MAX_PROGRAM);
    }

    private static boolean isClass(int cls) {
        return isWithin(cls, CLASSES - 1);
    }

    private static boolean isCondition(int kind) {
        return isWithin(kind, CONDITIONS - 1);
    }

    private Code findCode(int number) {
        return number >= 1 && number <= codeCount ? codes[number - 1] : null;
    }

    private Terminal findTerminal(int number) {
        return number >= 1 && number <= terminalCount ? terminals[number - 1] : null;
    }

    private Task findTask(int number) {
        return number >= 1 && number <= taskCount ? tasks[number - 1] : null;
    }

    private Code nextCodeAt(Terminal at) {
        return at == null ? null : findCode(at.next);
    }

    private int wake(Task t, int event) {
        if (t.state != WAITS || t.event != event) {
            return NOT_NOW;
        }
        t.state = RUNS;
        t.event = NONE;
        return t.state;
    }

    /** Makes an active task one that is active no more, which may let queued ones start. */
    private void leave(Task t, int newState) {
        t.state = newState;
        t.event = NONE;
        t.storage = 0;
        activeOfClass[t.code.cls]--;
        if (t.terminal != null) {
            t.terminal.activeTask = 0;
        }
        startAllThatMay();
    }

    private int startAllThatMay() {
        int started = 0;
        // A task starts only once, so there are never more rounds than tasks.
        for (int round = 0; round < taskCount; round++) {
            Task first = firstThatMayStart();
            if (first == null) {
                break;
            }
            begin(first);
            started++;
        }
        return started;
    }

    private Task firstThatMayStart() {
        Task first = null;
        for (int i = 0; i < taskCount; i++) {
            Task t = tasks[i];
            // Only a greater priority takes the place, so the lesser number wins among equals.
            if (t != null && mayStart(t) && (first == null || t.code.priority > first.code.priority)) {
                first = t;
            }
        }
        return first;
    }

    private boolean mayStart(Task t) {
        return t.state == QUEUED
                && t.from <= time
                && (t.terminal == null || t.terminal.activeTask == 0)
                && activeOfClass[t.code.cls] < limits[t.code.cls];
    }

    private void begin(Task t) {
        t.state = RUNS;
        activeOfClass[t.code.cls]++;
        if (t.terminal != null) {
            t.terminal.activeTask = t.number;
        }
    }

    private static final class Code {
        final int number;
        final int program;
        final int cls;
        final int priority;

        Code(int number, int program, int cls, int priority) {
            this.number = number;
            this.program = program;
            this.cls = cls;
            this.priority = priority;
        }
    }

    private static final class Terminal {
        final int number;
        int next;
        int area;
        int activeTask;

        Terminal(int number) {
            this.number = number;
        }
    }

    /** A program at one level of a task; labels are 0 where a condition is not handled. */
    private static final class Level {
        final int program;
        final int depth;
        final Level below;
        final int[] labels;

        Level(int program, int depth, Level below) {
            this.program = program;
            this.depth = depth;
            this.below = below;
            labels = new int[CONDITIONS];
        }

        int labelFor(int kind) {
            return labels[kind] != 0 ? labels[kind] : labels[ALL_CONDITIONS];
        }
    }

    private static final class Task {
        final int number;
        final Code code;
        final Terminal terminal;
        final long from;
        int state;
        int event;
        int storage;
        Level top;

        Task(int number, Code code, Terminal terminal, long from) {
            this.number = number;
            this.code = code;
            this.terminal = terminal;
            this.from = from;
            state = QUEUED;
            event = NONE;
            // Made here and not at the task's start, so that a tick that starts many makes nothing.
            top = new Level(code.program, 1, null);
        }

        boolean isActive() {
            return state == RUNS || state == WAITS;
        }
    }
}
