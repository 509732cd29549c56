/** What all tests of the project share: it compares answers, and counts the wrong ones. */
final class Check {
    interface Call {
        double answer();
    }

    private int checked = 0;
    private int wrong = 0;
    private int sentences = 0;
    private int checkedAheadOfSentence = 0;
    private String sentence = "";

    /** What is checked from here on tests these words of the document; wrong answers are told with them. */
    void sentence(String words) {
        endSentence();
        sentences++;
        checkedAheadOfSentence = checked;
        sentence = words;
    }

    /** A test that is cut off by an exception is wrong, and those behind it still run. */
    void run(Runnable test) {
        try {
            test.run();
        } catch (RuntimeException e) {
            tell("cut off by " + e);
        }
    }

    void same(String call, long got, long due) {
        checked++;
        if (got != due) {
            tell(call + " answered " + got + ", due is " + due);
        }
    }

    void sameDouble(String call, double got, double due) {
        checked++;
        if (got != due) {
            tell(call + " answered " + got + ", due is " + due);
        }
    }

    /** The class must be the very one: what the machine throws is often a class below it. */
    void refused(String call, Class<?> due, Call made) {
        checked++;
        Class<?> got = null;
        try {
            made.answer();
        } catch (RuntimeException e) {
            got = e.getClass();
        }
        if (got != due) {
            tell(call + " threw " + got + ", due is " + due);
        }
    }

    /** The checksum is made of all that there is, so it tells whether anything was changed. */
    void refusedBy(AqueductTanks x, String call, Class<?> due, Call made) {
        long before = x.digest();
        refused(call, due, made);
        same("digest() after " + call, x.digest(), before);
    }

    void end() {
        endSentence();
        String tested = sentences == 0 ? "" : sentences + " sentences, ";
        System.out.println(tested + checked + " answers checked, " + wrong + " wrong");
        if (wrong != 0 || checked == 0) {
            System.exit(1);
        }
    }

    private void endSentence() {
        if (sentences > 0 && checked == checkedAheadOfSentence) {
            tell("nothing is checked");
        }
    }

    private void tell(String text) {
        wrong++;
        System.out.println(sentence.isEmpty() ? text : "[" + sentence + "] " + text);
    }
}
