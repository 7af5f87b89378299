import java.util.ArrayList;
import java.util.List;
import java.util.function.Supplier;

/**
 * Tells all that an object shows and hides, as a list of calls with their answers. What only changing
 * calls bring out (next codes, limits, the time, handlers) is asked of objects made anew for it, so
 * that no object comes near its 512th call.
 */
final class Probe {
    private static final int CALLS_AN_OBJECT = 150;
    private static final int MOST_TASKS_BY_LEVEL = 16;

    private final Supplier<TaskStates2> maker;
    private final Scene scene;
    private final List<String> answers = new ArrayList<>();
    private TaskStates2 x;
    private int asked;

    private Probe(Supplier<TaskStates2> maker, Scene scene) {
        this.maker = maker;
        this.scene = scene;
    }

    static List<String> of(Supplier<TaskStates2> maker, Scene scene) {
        Probe p = new Probe(maker, scene);
        p.shown();
        for (int n = 1; n <= scene.terminals; n++) {
            p.nextCodeOf(n);
        }
        p.newOnes();
        // An empty object has no codes, and what a full one's codes are can't be seen by new tasks.
        if (scene == Scene.BUSY || scene == Scene.ROOM_FOR_TASKS) {
            p.codes();
            p.orderOfCodes();
        }
        p.limits();
        p.times();
        for (int task = 1; task <= Math.min(scene.tasks, MOST_TASKS_BY_LEVEL); task++) {
            p.levelsOf(task);
        }
        if (scene == Scene.FULL) {
            p.levelsOf(Scene.DEEPEST_OF_FULL);
        }
        p.opened();
        return p.answers;
    }

    private void anew() {
        x = maker.get();
        asked = 0;
    }

    /** For calls that change nothing: takes a new object when the one in use was asked enough. */
    private TaskStates2 reader() {
        if (asked >= CALLS_AN_OBJECT) {
            anew();
        }
        asked++;
        return x;
    }

    private void tell(String call, int answer) {
        answers.add(call + " = " + answer);
    }

    private void shown() {
        anew();
        for (int what = 0; what <= 19; what++) {
            tell("count(" + what + ")", reader().count(what));
        }
        for (int n = 1; n <= scene.terminals; n++) {
            tell("area(" + n + ")", reader().area(n));
            tell("owner(" + n + ")", reader().owner(n));
        }
        for (int task = 1; task <= scene.tasks; task++) {
            tell("state(" + task + ")", reader().state(task));
            for (int what = 0; what <= 5; what++) {
                tell("told(" + task + ", " + what + ")", reader().told(task, what));
            }
        }
    }

    /** On an object of its own, as a start that is refused could itself spoil the others' codes. */
    private void nextCodeOf(int n) {
        anew();
        int task = x.start(0, n, Long.MAX_VALUE);
        tell("next code of terminal " + n + ", start", task);
        tell("next code of terminal " + n + ", its code", x.told(task, 3));
    }

    private void codes() {
        anew();
        openLimits();
        for (int code = 1; code <= scene.codes; code++) {
            int task = x.start(code, 0, 0);
            tell("start of code " + code, task);
            tell("its program", x.told(task, 1));
            tell("its code", x.told(task, 3));
        }
        for (int cls = 0; cls <= 9; cls++) {
            tell("active ones of class " + cls, x.count(10 + cls));
        }
    }

    private void newOnes() {
        anew();
        tell("a new code", x.code(1, 1, 1));
        tell("a new terminal", x.terminal());
        tell("a new task", x.start(1, 0, 0));
        tell("a new task's state", x.state(scene.tasks + 1));
    }

    /** Tasks of all codes at one terminal, whose owners tell which priority is the greater. */
    private void orderOfCodes() {
        anew();
        openLimits();
        int n = Scene.FREE_TERMINAL;
        for (int code = 1; code <= scene.codes; code++) {
            tell("start of code " + code + " at a free terminal", x.start(code, n, 101));
        }
        x.tick(101);
        for (int i = 1; i <= scene.codes; i++) {
            int owner = x.owner(n);
            tell("owner " + i + " of that terminal", owner);
            x.event(owner, 2, 0);
        }
    }

    private void openLimits() {
        for (int cls = 0; cls <= 9; cls++) {
            x.limit(cls, 50);
        }
    }

    private void limits() {
        anew();
        for (int cls = 0; cls <= 9; cls++) {
            tell("limit(" + cls + ", 0)", x.limit(cls, 0));
        }
    }

    private void times() {
        anew();
        for (long t : Scene.MARKS) {
            tell("tick(" + t + ")", x.tick(t));
            tell("count(3) then", x.count(3));
            tell("count(4) then", x.count(4));
            tellStates("at " + t);
        }
    }

    private void tellStates(String when) {
        for (int task = 1; task <= Math.min(scene.tasks, MOST_TASKS_BY_LEVEL); task++) {
            tell("state(" + task + ") " + when, x.state(task));
        }
    }

    private void levelsOf(int task) {
        anew();
        if (x.state(task) == 0) {
            letStart(task);
        }
        x.event(task, 1, x.told(task, 5));
        tell("state of task " + task, x.state(task));
        int levels = x.told(task, 0);
        for (int level = levels; level >= 1; level--) {
            for (int kind = 0; kind <= 9; kind++) {
                tell("label of " + kind + ", task " + task + ", level " + level, x.handle(task, kind, 0));
            }
            tell("program of task " + task + ", level " + level, x.told(task, 1));
            tell("back of task " + task + ", level " + level, x.back(task, 0, 0));
        }
    }

    private void letStart(int task) {
        openLimits();
        x.tick(Long.MAX_VALUE);
        int owner = x.owner(x.told(task, 4));
        if (owner != task) {
            x.event(owner, 1, x.told(owner, 5));
            x.event(owner, 2, 0);
        }
    }

    /** All limits at their greatest and the latest time: what starts then, and when others end. */
    private void opened() {
        anew();
        openLimits();
        tell("count(4) when opened", x.count(4));
        tell("tick of the latest time", x.tick(Long.MAX_VALUE));
        tellStates("when opened");
        for (int task = 1; task <= Math.min(scene.tasks, MOST_TASKS_BY_LEVEL); task++) {
            tell("end of task " + task, x.event(task, 2, 0));
            tell("count(4) after the end of task " + task, x.count(4));
        }
        tellStates("when ended");
    }
}
