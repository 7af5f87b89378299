/** Compares answers with those that are due, tells the wrong ones, and ends with 1 if there was one. */
final class Due {
    private final String test;
    private String part = "";
    private int asked;
    private int wrong;

    Due(String test) {
        this.test = test;
    }

    void part(String name) {
        part = name;
    }

    void is(String call, long got, long want) {
        same(call, Long.toString(got), Long.toString(want));
    }

    void same(String call, String got, String want) {
        asked++;
        if (!got.equals(want)) {
            wrong++;
            System.out.println(test + " " + part + ": " + call + " answered " + got + ", due is " + want);
        }
    }

    int wrong() {
        return wrong;
    }

    void end() {
        System.out.println(test + ": " + asked + " answers, " + wrong + " not as due");
        if (wrong != 0) {
            System.exit(1);
        }
    }
}
