/** Counts and prints the calls whose answer is not the one that is due. */
final class Check {
    interface Call {
        long answer();
    }

    private static int checked = 0;
    private static int wrong = 0;

    private Check() {
    }

    static void due(String call, long want, Call made) {
        told(call, String.valueOf(want), outcome(made));
    }

    static void due(String call, boolean want, boolean got) {
        told(call, String.valueOf(want), String.valueOf(got));
    }

    static void argumentOut(String call, Call made) {
        told(call, "throws.IllegalArgumentException", outcome(made));
    }

    static void indexOut(String call, Call made) {
        told(call, "throws.IndexOutOfBoundsException", outcome(made));
    }

    static void stateOut(String call, Call made) {
        told(call, "throws.IllegalStateException", outcome(made));
    }

    static String outcome(Call made) {
        try {
            return String.valueOf(made.answer());
        } catch (RuntimeException thrown) {
            return "throws." + thrown.getClass().getSimpleName();
        }
    }

    static void told(String call, String want, String got) {
        checked++;
        if (!want.equals(got)) {
            wrong++;
            System.out.println(call + " answered " + got + ", due is " + want);
        }
    }

    /** The signs of a copy's text, as the calls tell them one by one. */
    static void text(CoauthorText x, int author, int... signs) {
        due("length(" + author + ")", signs.length, () -> x.length(author));
        for (int place = 0; place < signs.length; place++) {
            int at = place;
            due("signAt(" + author + ", " + at + ")", signs[at], () -> x.signAt(author, at));
        }
        indexOut("signAt(" + author + ", " + signs.length + ")",
                () -> x.signAt(author, signs.length));
    }

    static void end() {
        System.out.println(checked + " checked, " + wrong + " wrong");
        if (wrong != 0 || checked == 0) {
            System.exit(1);
        }
    }
}
