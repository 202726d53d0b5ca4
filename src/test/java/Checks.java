/** What the tests share: a due answer, a due exception, and the end with exit code 1 if one was wrong. */
final class Checks {
    interface Call {
        long answer();
    }

    private final String name;
    private String place = "";
    private int made = 0;
    private int wrong = 0;

    Checks(String name) {
        this.name = name;
    }

    /** What is told from here on is told with this place. */
    void within(String where) {
        place = " [" + where + "]";
    }

    int made() {
        return made;
    }

    void due(String what, long got, long want) {
        made++;
        if (got != want) {
            tell(what + " answered " + got + ", due is " + want);
        }
    }

    /** Doubles and floats are compared by their bits: the document gives them exactly. */
    void dueShare(String what, double got, double want) {
        made++;
        if (Double.doubleToLongBits(got) != Double.doubleToLongBits(want)) {
            tell(what + " answered " + got + ", due is " + want);
        }
    }

    void dueText(String what, String got, String want) {
        made++;
        if (!got.equals(want)) {
            tell(what + " is\n  " + got + "\n  due is\n  " + want);
        }
    }

    void dueThrow(String what, Class<? extends RuntimeException> want, Call call) {
        made++;
        try {
            long got = call.answer();
            tell(what + " answered " + got + ", due is " + want.getSimpleName());
        } catch (RuntimeException e) {
            if (e.getClass() != want) {
                tell(what + " threw " + e + ", due is " + want.getSimpleName());
            }
        }
    }

    void dueNoThrow(String what, Call call) {
        made++;
        try {
            call.answer();
        } catch (RuntimeException e) {
            tell(what + " threw " + e + ", due is an answer");
        }
    }

    void tell(String text) {
        wrong++;
        if (wrong <= 40) {
            System.out.println(name + place + ": " + text);
        }
    }

    void end() {
        System.out.println(name + ": " + made + " checks, " + wrong + " wrong");
        if (made == 0 || wrong != 0) {
            System.exit(1);
        }
    }
}
