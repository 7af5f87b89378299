/**
 * A call of the face, by the method's place in it, counted from 0 at code; a method takes as many of
 * the values as it has parameters.
 */
record Call(int method, int a, int b, int c, long when) {
    private static final String[] NAMES = {
        "code", "terminal", "start", "event", "link", "back", "area", "storage", "limit",
        "tick", "purge", "handle", "condition", "state", "told", "owner", "count"};

    static final int METHODS = NAMES.length;

    int on(TaskStates2 x) {
        return switch (method) {
            case 0 -> x.code(a, b, c);
            case 1 -> x.terminal();
            case 2 -> x.start(a, b, when);
            case 3 -> x.event(a, b, c);
            case 4 -> x.link(a, b);
            case 5 -> x.back(a, b, c);
            case 6 -> x.area(a);
            case 7 -> x.storage(a, b);
            case 8 -> x.limit(a, b);
            case 9 -> x.tick(when);
            case 10 -> x.purge(a);
            case 11 -> x.handle(a, b, c);
            case 12 -> x.condition(a, b);
            case 13 -> x.state(a);
            case 14 -> x.told(a, b);
            case 15 -> x.owner(a);
            default -> x.count(a);
        };
    }

    @Override
    public String toString() {
        return NAMES[method] + "(" + a + ", " + b + ", " + c + ", " + when + ")";
    }
}
