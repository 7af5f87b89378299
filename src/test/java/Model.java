import java.util.ArrayList;
import java.util.Arrays;
import java.util.List;

/**
 * The document told a second time, with nothing kept that can be reckoned: who owns a terminal and how
 * full a class is are looked up among all tasks at each question.
 */
final class Model {
    private static final class Unit {
        int[] code;
        int codeNumber;
        int terminal;
        long when;
        int state;
        int event = -1;
        int storage;
        final List<int[]> levels = new ArrayList<>();

        boolean active() {
            return state == 1 || state == 2;
        }

        /** A level's row: the labels of conditions 0 .. 9, then its program. */
        int[] top() {
            return levels.get(levels.size() - 1);
        }

        void enter(int program) {
            int[] level = new int[11];
            level[10] = program;
            levels.add(level);
        }

        void stop(int newState) {
            state = newState;
            event = -1;
            storage = 0;
            levels.clear();
        }
    }

    private final List<int[]> codes = new ArrayList<>();
    private final List<int[]> terminals = new ArrayList<>();
    private final List<Unit> units = new ArrayList<>();
    private final int[] limits = new int[10];
    private long now;

    Model() {
        Arrays.fill(limits, 50);
    }

    int answer(Call call) {
        int a = call.a();
        int b = call.b();
        int c = call.c();
        return switch (call.method()) {
            case 0 -> code(a, b, c);
            case 1 -> terminals.size() == 20 ? -1 : added(terminals, new int[2]);
            case 2 -> start(a, b, call.when());
            case 6 -> has(terminals, a) ? terminals.get(a - 1)[1] : -2;
            case 8 -> limit(a, b);
            case 9 -> call.when() < now ? -4 : tick(call.when());
            case 14 -> told(a, b);
            case 15 -> has(terminals, a) ? owner(a) : -2;
            case 16 -> count(a);
            default -> has(units, a) ? ofUnit(call.method(), units.get(a - 1), b, c) : -2;
        };
    }

    private int ofUnit(int method, Unit u, int b, int c) {
        return switch (method) {
            case 3 -> event(u, b, c);
            case 4 -> link(u, b);
            case 5 -> back(u, b, c);
            case 7 -> storage(u, b);
            case 10 -> purge(u);
            case 11 -> handle(u, b, c);
            case 12 -> condition(u, b);
            case 13 -> u.state;
            default -> throw new IllegalArgumentException("no such method");
        };
    }

    private static boolean has(List<?> list, int number) {
        return 1 <= number && number <= list.size();
    }

    private static boolean in(int low, int value, int high) {
        return low <= value && value <= high;
    }

    private static <T> int added(List<T> list, T item) {
        list.add(item);
        return list.size();
    }

    private int owner(int terminal) {
        for (int i = 0; i < units.size(); i++) {
            if (units.get(i).active() && units.get(i).terminal == terminal) {
                return i + 1;
            }
        }
        return 0;
    }

    private int activeOf(int cls) {
        return (int) units.stream().filter(u -> u.active() && u.code[1] == cls).count();
    }

    private boolean ready(Unit u) {
        return u.state == 0 && u.when <= now && (u.terminal == 0 || owner(u.terminal) == 0)
                && activeOf(u.code[1]) < limits[u.code[1]];
    }

    /** Goes down the priorities, since a start never makes another task ready. */
    private int settle() {
        int started = 0;
        List<Unit> order = new ArrayList<>(units);
        order.sort((u, v) -> v.code[2] - u.code[2]);
        for (Unit u : order) {
            if (ready(u)) {
                u.state = 1;
                u.enter(u.code[0]);
                started++;
            }
        }
        return started;
    }

    private int code(int program, int cls, int priority) {
        if (!in(0, program, 99) || !in(0, cls, 9) || !in(0, priority, 255)) {
            return -4;
        }
        return codes.size() == 60 ? -1 : added(codes, new int[] {program, cls, priority});
    }

    private int start(int code, int terminal, long when) {
        if (terminal != 0 && !has(terminals, terminal)) {
            return -2;
        }
        int number = code == 0 && terminal != 0 ? terminals.get(terminal - 1)[0] : code;
        if (!has(codes, number)) {
            return -2;
        }
        if (when < 0 || units.size() == 200) {
            return when < 0 ? -4 : -1;
        }
        if (code == 0) {
            terminals.get(terminal - 1)[0] = 0;
        }
        Unit u = new Unit();
        u.code = codes.get(number - 1);
        u.codeNumber = number;
        u.terminal = terminal;
        u.when = when;
        int answer = added(units, u);
        settle();
        return answer;
    }

    private int event(Unit u, int kind, int v) {
        if (!in(0, kind, 2) || kind < 2 && !in(0, v, 15)) {
            return -4;
        }
        if (kind == 1 ? u.state != 2 || u.event != v : u.state != 1) {
            return -5;
        }
        if (kind == 2) {
            u.stop(3);
            settle();
        } else {
            u.state = kind == 0 ? 2 : 1;
            u.event = kind == 0 ? v : -1;
        }
        return u.state;
    }

    private static int link(Unit u, int program) {
        if (!in(0, program, 99) || u.state != 1) {
            return in(0, program, 99) ? -5 : -4;
        }
        if (u.levels.size() == 10) {
            return -1;
        }
        u.enter(program);
        return u.levels.size();
    }

    private int back(Unit u, int next, int area) {
        if (next != 0 && !has(codes, next) || !in(0, area, 9999)) {
            return -4;
        }
        if (u.state != 1) {
            return -5;
        }
        boolean plain = next == 0 && area == 0;
        if (u.levels.size() > 1) {
            if (plain) {
                u.levels.remove(u.levels.size() - 1);
            }
            return plain ? 1 : 0;
        }
        if (u.terminal == 0 && !plain) {
            return 0;
        }
        if (u.terminal != 0) {
            terminals.set(u.terminal - 1, new int[] {next, area});
        }
        u.stop(3);
        settle();
        return 1;
    }

    private static int storage(Unit u, int n) {
        if (!in(0, n, 10000) || !u.active()) {
            return in(0, n, 10000) ? -5 : -4;
        }
        return u.storage + n > 30000 ? -1 : (u.storage += n);
    }

    private int limit(int cls, int n) {
        if (!in(0, cls, 9) || !in(0, n, 50)) {
            return -4;
        }
        int was = limits[cls];
        limits[cls] = n;
        settle();
        return was;
    }

    private int tick(long t) {
        now = t;
        return settle();
    }

    private int purge(Unit u) {
        if (u.state != 0 && u.state != 2) {
            return 0;
        }
        u.stop(5);
        settle();
        return 1;
    }

    private static int handle(Unit u, int kind, int label) {
        if (!in(0, kind, 9) || !in(0, label, 9999)) {
            return -4;
        }
        if (u.state != 1) {
            return -5;
        }
        int was = u.top()[kind];
        u.top()[kind] = label;
        return was;
    }

    private int condition(Unit u, int kind) {
        if (!in(0, kind, 9)) {
            return -4;
        }
        if (u.state != 1) {
            return -5;
        }
        for (int k : new int[] {kind, 0}) {
            if (u.top()[k] != 0) {
                return u.top()[k];
            }
        }
        u.stop(4);
        settle();
        return -1000 - kind;
    }

    private int told(int task, int what) {
        if (!has(units, task) || !in(0, what, 5)) {
            return -1;
        }
        Unit u = units.get(task - 1);
        int program = u.active() ? u.top()[10] : -1;
        return new int[] {u.levels.size(), program, u.storage, u.codeNumber, u.terminal, u.event}[what];
    }

    private int count(int what) {
        return switch (what) {
            case 0 -> codes.size();
            case 1 -> terminals.size();
            case 2 -> units.size();
            case 3 -> (int) units.stream().filter(u -> u.state == 0).count();
            case 4 -> (int) units.stream().filter(Unit::active).count();
            case 5 -> units.stream().mapToInt(u -> u.storage).sum();
            default -> in(10, what, 19) ? activeOf(what - 10) : -1;
        };
    }
}
