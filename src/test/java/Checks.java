/** What the tests share: a due answer, a due exception, and the end with exit code 1 if one was wrong. */
final class Checks {
    interface Call {
        long answer();
    }

    private final String name;
    private int made = 0;
    private int wrong = 0;

    Checks(String name) {
        this.name = name;
    }

    void due(String what, long got, long want) {
        made++;
        if (got != want) {
            tell(what + " answered " + got + ", due is " + want);
        }
    }

    /** Doubles and floats are compared by their bits: the document gives them exactly. */
    void dueShare(String what, double got, double want) {
        made++;
        if (Double.doubleToLongBits(got) != Double.doubleToLongBits(want)) {
            tell(what + " answered " + got + ", due is " + want);
        }
    }

    void dueThrow(String what, Class<? extends RuntimeException> want, Call call) {
        made++;
        try {
            long got = call.answer();
            tell(what + " answered " + got + ", due is " + want.getSimpleName());
        } catch (RuntimeException e) {
            if (e.getClass() != want) {
                tell(what + " threw " + e + ", due is " + want.getSimpleName());
            }
        }
    }

    void tell(String text) {
        wrong++;
        if (wrong <= 40) {
            System.out.println(name + ": " + text);
        }
    }

    void end() {
        System.out.println(name + ": " + made + " checks, " + wrong + " wrong");
        if (made == 0 || wrong != 0) {
            System.exit(1);
        }
    }
}
