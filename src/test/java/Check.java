/** Counts and prints the answers that are not as due; a test's main ends with end(). */
final class Check {
    interface Call {
        long answer();
    }

    interface CallOf {
        long answer(int value);
    }

    interface MuralCall {
        long answer(LampMural mural);
    }

    private static int wrong = 0;
    private static int made = 0;

    private Check() {
    }

    static void due(String what, long got, long want) {
        made++;
        if (got != want) {
            wrong++;
            System.out.println(what + " answered " + got + ", due is " + want);
        }
    }

    static void index(String what, LampMural mural, Call call) {
        refused(what, mural, call, IndexOutOfBoundsException.class);
    }

    static void argument(String what, LampMural mural, Call call) {
        refused(what, mural, call, IllegalArgumentException.class);
    }

    static void state(String what, LampMural mural, Call call) {
        refused(what, mural, call, IllegalStateException.class);
    }

    /** The call throws exactly this exception, and changes nothing. */
    private static void refused(String what, LampMural mural, Call call, Class<?> exception) {
        made++;
        long before = mural.digest();
        String got;
        try {
            got = "answered " + call.answer();
        } catch (RuntimeException e) {
            got = e.getClass() == exception ? "" : "threw " + e.getClass().getName();
        }
        if (!got.isEmpty()) {
            wrong++;
            System.out.println(what + " " + got + ", due is " + exception.getName());
        }
        due(what + ": the digest after it", mural.digest(), before);
    }

    /** Each value just beyond a range, and far beyond it, is refused as an argument. */
    static void argumentBeyond(String what, LampMural mural, int low, int high, CallOf call) {
        for (int value : beyond(low, high)) {
            argument(what + " of " + value, mural, () -> call.answer(value));
        }
    }

    /** Each value just beyond a range, and far beyond it, is refused as an index. */
    static void indexBeyond(String what, LampMural mural, int low, int high, CallOf call) {
        for (int value : beyond(low, high)) {
            index(what + " of " + value, mural, () -> call.answer(value));
        }
    }

    private static int[] beyond(int low, int high) {
        return new int[] {low - 1, high + 1, high + 256, low + 65536, Integer.MIN_VALUE, Integer.MAX_VALUE};
    }

    /** The call saves one state, the one from before it; the mural comes with less than four saved states. */
    static void undoable(String what, LampMural mural, MuralCall call) {
        long before = mural.digest();
        call.answer(mural);
        mural.undo();
        due("the digest after " + what + " and undo()", mural.digest(), before);
    }

    /** The call changes nothing, and saves a state all the same; the mural comes with less than four saved states. */
    static void undoableWithoutChange(String what, LampMural mural, MuralCall call) {
        long before = mural.digest();
        call.answer(mural);
        due("the digest after " + what + ", one state more", mural.digest(), before + stepOfSavedStates(mural));
        mural.undo();
        due("the digest after " + what + " and undo()", mural.digest(), before);
    }

    /** By how much one saved state more, and no other change, raises the digest. */
    static long stepOfSavedStates(LampMural mural) {
        int lamps = mural.whole(4);
        int valuesBehind = 15 + lamps * (12 + 8) + mural.whole(0) * mural.whole(1) * (6 + lamps);
        long step = 1;
        for (int i = 0; i < valuesBehind; i++) {
            step *= 31;
        }
        return step;
    }

    static LampMural typed(LampMural mural, String text) {
        mural.clearCommands();
        for (int i = 0; i < text.length(); i++) {
            mural.type(text.charAt(i));
        }
        return mural;
    }

    static int made() {
        return made;
    }

    static int wrong() {
        return wrong;
    }

    /** A call that does not come back fails the test too. */
    static void endInTime(String name) {
        Thread watch = new Thread(() -> {
            try {
                Thread.sleep(100_000);
            } catch (InterruptedException e) {
                return;
            }
            System.out.println(name + ": there is no end after 100 seconds");
            Runtime.getRuntime().halt(1);
        });
        watch.setDaemon(true);
        watch.start();
    }

    static void end(String name) {
        System.out.println(name + ": " + made + " checks, " + wrong + " wrong");
        if (wrong > 0 || made == 0) {
            System.exit(1);
        }
    }
}
