/** Counts the calls of one test whose answer is not the one that is due. */
final class Check {
    /** A call that is expected to throw, or not to. */
    interface Call {
        void make();
    }

    private int made = 0;
    private int wrong = 0;
    private String sentence = "";

    /** What follows holds this sentence of the document; a wrong answer is told with it. */
    void sentence(String text) {
        sentence = "'" + text + "': ";
    }

    void due(String call, long got, long want) {
        made++;
        if (got != want) {
            wrong++;
            System.out.println(sentence + call + " answered " + got + ", due is " + want);
        }
    }

    void due(String call, boolean got, boolean want) {
        due(call, got ? 1 : 0, want ? 1 : 0);
    }

    void dueText(String what, String got, String want) {
        made++;
        if (!got.equals(want)) {
            wrong++;
            System.out.println(sentence + what + " is " + got + ", due is " + want);
        }
    }

    void taken(String call, Call c) {
        dueText(call, thrownBy(c), "nothing thrown");
    }

    void refused(String call, Call c) {
        dueText(call, thrownBy(c), "IllegalArgumentException");
    }

    void outOfState(String call, Call c) {
        dueText(call, thrownBy(c), "IllegalStateException");
    }

    /** The name of what a call throws; anything but the two of the document is a fault as well. */
    static String thrownBy(Call c) {
        try {
            c.make();
        } catch (RuntimeException e) {
            return e.getClass().getSimpleName();
        }
        return "nothing thrown";
    }

    void end() {
        System.out.println(made + " answers looked at, " + wrong + " wrong");
        if (wrong != 0 || made == 0) {
            System.exit(1);
        }
    }
}
