/** Counts and prints the answers that are not as due; a test's main ends with end(). */
final class Check {
    interface Call {
        long answer();
    }

    private static int wrong = 0;
    private static int made = 0;

    private Check() {
    }

    static void due(String what, long got, long want) {
        made++;
        if (got != want) {
            wrong++;
            System.out.println(what + " answered " + got + ", due is " + want);
        }
    }

    static void index(String what, LampMural mural, Call call) {
        refused(what, mural, call, IndexOutOfBoundsException.class);
    }

    static void argument(String what, LampMural mural, Call call) {
        refused(what, mural, call, IllegalArgumentException.class);
    }

    static void state(String what, LampMural mural, Call call) {
        refused(what, mural, call, IllegalStateException.class);
    }

    /** The call throws exactly this exception, and changes nothing. */
    private static void refused(String what, LampMural mural, Call call, Class<?> exception) {
        made++;
        long before = mural.digest();
        String got;
        try {
            got = "answered " + call.answer();
        } catch (RuntimeException e) {
            got = e.getClass() == exception ? "" : "threw " + e.getClass().getName();
        }
        if (!got.isEmpty()) {
            wrong++;
            System.out.println(what + " " + got + ", due is " + exception.getName());
        }
        due(what + ": the digest after it", mural.digest(), before);
    }

    static LampMural typed(LampMural mural, String text) {
        mural.clearCommands();
        for (int i = 0; i < text.length(); i++) {
            mural.type(text.charAt(i));
        }
        return mural;
    }

    static void end(String name) {
        System.out.println(name + ": " + made + " checks, " + wrong + " wrong");
        if (wrong > 0 || made == 0) {
            System.exit(1);
        }
    }
}
