/** What all tests of the project share: it compares answers, and counts the wrong ones. */
final class Check {
    interface Call {
        double answer();
    }

    private int checked = 0;
    private int wrong = 0;

    void same(String call, long got, long due) {
        checked++;
        if (got != due) {
            tell(call + " answered " + got + ", due is " + due);
        }
    }

    void sameDouble(String call, double got, double due) {
        checked++;
        if (got != due) {
            tell(call + " answered " + got + ", due is " + due);
        }
    }

    /** The class must be the very one: what the machine throws is often a class below it. */
    void refused(String call, Class<?> due, Call made) {
        checked++;
        Class<?> got = null;
        try {
            made.answer();
        } catch (RuntimeException e) {
            got = e.getClass();
        }
        if (got != due) {
            tell(call + " threw " + got + ", due is " + due);
        }
    }

    void end() {
        System.out.println(checked + " answers checked, " + wrong + " wrong");
        if (wrong != 0 || checked == 0) {
            System.exit(1);
        }
    }

    private void tell(String text) {
        wrong++;
        System.out.println(text);
    }
}
