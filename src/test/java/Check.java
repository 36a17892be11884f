/** Counts the answers that are not the ones that are due, and prints them. */
final class Check {
    interface Call {
        long answer();
    }

    interface Act {
        void run();
    }

    static final Class<IndexOutOfBoundsException> NO_SUCH = IndexOutOfBoundsException.class;
    static final Class<IllegalStateException> NOT_NOW = IllegalStateException.class;
    static final Class<IllegalArgumentException> BAD = IllegalArgumentException.class;

    private static int wrong = 0;
    private static int looked = 0;
    private static String about = "";

    private Check() {
    }

    /** What is looked at from here on is about this. */
    static void about(String sentence) {
        about = sentence + ": ";
    }

    static void due(String what, long got, long want) {
        looked++;
        if (got != want) {
            wrong++;
            System.out.println(about + what + " answered " + got + ", due is " + want);
        }
    }

    static void due(String what, boolean got, boolean want) {
        due(what, got ? 1 : 0, want ? 1 : 0);
    }

    /** The call throws just this exception, and changes nothing. */
    static void dueThrows(String what, Class<? extends RuntimeException> want, KeyLeases x, Act act) {
        long before = x.digest();
        Class<?> got = null;
        try {
            act.run();
        } catch (RuntimeException thrown) {
            got = thrown.getClass();
        }
        looked++;
        if (got != want) {
            wrong++;
            System.out.println(about + what + " threw " + got + ", due is " + want);
        }
        due(what + ": digest behind the exception", x.digest(), before);
    }

    /**
     * The call answers this, saves one state, and undo() brings the state before it back.
     * No syntax error may be in the buffer.
     */
    static void dueUndoable(String what, KeyLeases x, Call call, long want) {
        int saved = x.savedStates();
        long before = x.digest();
        due(what, call.answer(), want);
        due(what + ": savedStates", x.savedStates(), Math.min(6, saved + 1));
        x.undo();
        if (saved == 6) {
            // The oldest state is dropped for good: the hash tells of 5 then,
            // by a value that 4 others and the buffer follow.
            long weight = 1;
            for (int i = 0; i < 4 + x.firstError(); i++) {
                weight *= 31;
            }
            before -= weight;
        }
        due(what + ": digest behind undo", x.digest(), before);
        due(what + " once more", call.answer(), want);
    }

    /** The call answers this and changes nothing. */
    static void dueStill(String what, KeyLeases x, Call call, long want) {
        long before = x.digest();
        due(what, call.answer(), want);
        due(what + ": digest behind it", x.digest(), before);
    }

    static void finish(String name) {
        System.out.println(name + ": " + looked + " answers looked at, " + wrong + " not as due");
        if (wrong != 0) {
            System.exit(1);
        }
    }
}
