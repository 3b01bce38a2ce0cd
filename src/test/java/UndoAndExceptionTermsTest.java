import java.util.LinkedHashMap;
import java.util.Map;

/** The sentences of the terms UNDO and EXCEPTIONS, and NONE, each with its edges. */
public final class UndoAndExceptionTermsTest {
    private UndoAndExceptionTermsTest() {
    }

    public static void main(String[] args) {
        Sentences.run(UndoAndExceptionTermsTest.class);
    }

    /** A wall of four places that a lamp lights; three saved states. */
    private static LampMural mural() {
        LampMural m = new LampMural();
        m.begin(2, 2);
        m.addLamp(100, 5);
        m.setRectangle(0, 0, 0, 2, 2);
        return m;
    }

    /** Every undoable method, with a call that changes something. */
    private static Map<String, Check.MuralCall> changes() {
        Map<String, Check.MuralCall> calls = new LinkedHashMap<>();
        calls.put("begin(3, 2)", m -> m.begin(3, 2));
        calls.put("paint(0, 0, 1, 1, 9)", m -> m.paint(0, 0, 1, 1, 9));
        calls.put("addLamp(9, 9)", m -> m.addLamp(9, 9));
        calls.put("setCorner(0, 2, 7, 7)", m -> m.setCorner(0, 2, 7, 7));
        calls.put("setRectangle(0, 1, 1, 2, 2)", m -> m.setRectangle(0, 1, 1, 2, 2));
        calls.put("setLamp(0, 0, 50)", m -> m.setLamp(0, 0, 50));
        calls.put("setLamp(0, 1, 50)", m -> m.setLamp(0, 1, 50));
        calls.put("setLamp(0, 2, 50)", m -> m.setLamp(0, 2, 50));
        calls.put("setWorks(0, false)", m -> m.setWorks(0, false));
        calls.put("shift(1, 0)", m -> m.shift(1, 0));
        calls.put("shift(0, 1)", m -> m.shift(0, 1));
        calls.put("burn(1)", m -> m.burn(1));
        calls.put("runCommands() of 'burn 1;'", m -> runOf(m, "burn 1;"));
        return calls;
    }

    /** Every undoable method but burn, which counts its hours, with a call that changes nothing. */
    private static Map<String, Check.MuralCall> sames() {
        Map<String, Check.MuralCall> calls = new LinkedHashMap<>();
        calls.put("begin(2, 2)", m -> m.begin(2, 2));
        calls.put("paint(0, 0, 1, 1, 0)", m -> m.paint(0, 0, 1, 1, 0));
        calls.put("setCorner(0, 2, 2, 2)", m -> m.setCorner(0, 2, 2, 2));
        calls.put("setRectangle(0, 0, 0, 2, 2)", m -> m.setRectangle(0, 0, 0, 2, 2));
        calls.put("setLamp(0, 0, 100)", m -> m.setLamp(0, 0, 100));
        calls.put("setLamp(0, 1, 5)", m -> m.setLamp(0, 1, 5));
        calls.put("setLamp(0, 2, 0)", m -> m.setLamp(0, 2, 0));
        calls.put("setWorks(0, true)", m -> m.setWorks(0, true));
        calls.put("shift(0, 0)", m -> m.shift(0, 0));
        calls.put("runCommands() of no command", LampMural::runCommands);
        calls.put("runCommands() of nothing that can be done", m -> runOf(m, "burn 0;"));
        return calls;
    }

    /** Every call that is no change of wall and lamps. */
    private static Map<String, Check.MuralCall> looks() {
        Map<String, Check.MuralCall> calls = new LinkedHashMap<>();
        calls.put("place(0, 0, 0)", m -> m.place(0, 0, 0));
        calls.put("light(0, 0, 0)", m -> m.light(0, 0, 0));
        calls.put("weight(0, 0, 0)", m -> m.weight(0, 0, 0));
        calls.put("lamp(0, 0)", m -> m.lamp(0, 0));
        calls.put("corner(0, 0, 0)", m -> m.corner(0, 0, 0));
        calls.put("whole(0)", m -> m.whole(0));
        calls.put("wrong(0)", m -> m.wrong(0));
        calls.put("wrongWithout(0)", m -> m.wrongWithout(0));
        calls.put("dearestLamp()", LampMural::dearestLamp);
        calls.put("wrongShifted(1, 1)", m -> m.wrongShifted(1, 1));
        calls.put("bestShift(3)", m -> m.bestShift(3));
        calls.put("neededLimit(0)", m -> m.neededLimit(0));
        calls.put("type(32)", m -> m.type(32));
        calls.put("clearCommands()", LampMural::clearCommands);
        calls.put("runCommands() of a fault", m -> runOf(m, "?"));
        calls.put("digest()", LampMural::digest);
        return calls;
    }

    /** Every method that can throw, with a call for each of its reasons. */
    private static Map<String, Check.MuralCall> refusals() {
        Map<String, Check.MuralCall> calls = new LinkedHashMap<>();
        calls.put("begin(0, 1)", m -> m.begin(0, 1));
        calls.put("begin(1, 17)", m -> m.begin(1, 17));
        calls.put("paint(-1, 0, 0, 0, 1)", m -> m.paint(-1, 0, 0, 0, 1));
        calls.put("paint(0, 0, 0, 2, 1)", m -> m.paint(0, 0, 0, 2, 1));
        calls.put("paint(1, 0, 0, 0, 1)", m -> m.paint(1, 0, 0, 0, 1));
        calls.put("paint(0, 0, 1, 1, 256)", m -> m.paint(0, 0, 1, 1, 256));
        calls.put("addLamp(256, 0)", m -> m.addLamp(256, 0));
        calls.put("addLamp(0, -1)", m -> m.addLamp(0, -1));
        calls.put("setCorner(1, 0, 1, 1)", m -> m.setCorner(1, 0, 1, 1));
        calls.put("setCorner(0, 4, 1, 1)", m -> m.setCorner(0, 4, 1, 1));
        calls.put("setCorner(0, 0, 1, 41)", m -> m.setCorner(0, 0, 1, 41));
        calls.put("setRectangle(1, 0, 0, 1, 1)", m -> m.setRectangle(1, 0, 0, 1, 1));
        calls.put("setRectangle(0, 1, 1, 2, 41)", m -> m.setRectangle(0, 1, 1, 2, 41));
        calls.put("setLamp(1, 0, 1)", m -> m.setLamp(1, 0, 1));
        calls.put("setLamp(0, 3, 1)", m -> m.setLamp(0, 3, 1));
        calls.put("setLamp(0, 2, 901)", m -> m.setLamp(0, 2, 901));
        calls.put("setWorks(1, false)", m -> m.setWorks(1, false));
        calls.put("shift(1, 11)", m -> m.shift(1, 11));
        calls.put("burn(0)", m -> m.burn(0));
        calls.put("burn(10000)", m -> m.burn(10000));
        calls.put("place(2, 0, 0)", m -> m.place(2, 0, 0));
        calls.put("place(0, 0, 6)", m -> m.place(0, 0, 6));
        calls.put("light(1, 0, 0)", m -> m.light(1, 0, 0));
        calls.put("weight(0, 0, 2)", m -> m.weight(0, 0, 2));
        calls.put("lamp(1, 0)", m -> m.lamp(1, 0));
        calls.put("lamp(0, 12)", m -> m.lamp(0, 12));
        calls.put("corner(0, 4, 0)", m -> m.corner(0, 4, 0));
        calls.put("corner(0, 0, 2)", m -> m.corner(0, 0, 2));
        calls.put("whole(15)", m -> m.whole(15));
        calls.put("wrong(-1)", m -> m.wrong(-1));
        calls.put("wrongWithout(1)", m -> m.wrongWithout(1));
        calls.put("wrongShifted(11, 0)", m -> m.wrongShifted(11, 0));
        calls.put("bestShift(4)", m -> m.bestShift(4));
        calls.put("neededLimit(1)", m -> m.neededLimit(1));
        calls.put("type(128)", m -> m.type(128));
        return calls;
    }

    private static long runOf(LampMural m, String text) {
        Check.typed(m, text);
        long done = m.runCommands();
        m.clearCommands();
        return done;
    }

    private static void throwsSomething(String what, LampMural m, Check.MuralCall call) {
        String got;
        try {
            got = what + " answered " + call.answer(m);
        } catch (RuntimeException e) {
            got = "";
        }
        Check.due(got + " (1 is a refusal)", got.isEmpty() ? 1 : 0, 1);
    }

    /** Hours of 1, 2, 4 and 8 on the undo stack. */
    private static LampMural burned() {
        LampMural m = mural();
        for (int hours = 1; hours <= 8; hours *= 2) {
            m.burn(hours);
        }
        return m;
    }

    /** The four saved states of burned() are there, the latest first, and no other. */
    private static void unwinds(String what, LampMural m) {
        int[] hours = {7, 3, 1, 0};
        for (int i = 0; i < 4; i++) {
            Check.due("undo() " + i + " after " + what, m.undo(), 3 - i);
            Check.due("hours after undo() " + i + " after " + what, m.whole(12), hours[i]);
        }
        Check.state("undo() 4 after " + what, m, m::undo);
    }

    @Sentence(in = "Terms, UNDO", says = "Every method that is marked \"undoable\" saves the whole state")
    static void undo_everyUndoableMethodSavesTheWholeState() {
        for (Map.Entry<String, Check.MuralCall> change : changes().entrySet()) {
            LampMural m = mural();
            long before = m.digest();
            change.getValue().answer(m);
            Check.due(change.getKey() + " changes the digest", m.digest() != before ? 1 : 0, 1);
            Check.due("undo() of " + change.getKey(), m.undo(), 3);
            Check.due("the digest after undo() of " + change.getKey(), m.digest(), before);
        }
        for (Map.Entry<String, Check.MuralCall> look : looks().entrySet()) {
            LampMural m = burned();
            look.getValue().answer(m);
            unwinds(look.getKey(), m);
        }
    }

    @Sentence(in = "Terms, UNDO", says = "saves the whole state but the command text on an undo stack")
    static void undo_theCommandTextIsNotSaved() {
        LampMural m = Check.typed(new LampMural(), "burn 1;");
        m.burn(5);
        m.clearCommands();
        m.type('x');
        m.undo();
        Check.due("length of the text after undo()", m.whole(14), 1);
        Check.due("its run", m.runCommands(), -10);
        m.burn(1);
        Check.typed(m, "burn 3;");
        m.undo();
        Check.due("length of the text after another undo()", m.whole(14), 7);
        Check.due("its run", m.runCommands(), 1);
        m.undo();
        Check.due("length of the text after undo() of its run", m.whole(14), 7);
        m.clearCommands();
        Check.state("undo() of clearCommands() and type()", m, m::undo);
    }

    @Sentence(in = "Terms, UNDO", says = "on an undo stack when it ends normally")
    static void undo_aRefusedCallSavesNothing() {
        for (Map.Entry<String, Check.MuralCall> refusal : refusals().entrySet()) {
            LampMural m = burned();
            throwsSomething(refusal.getKey(), m, refusal.getValue());
            unwinds(refusal.getKey(), m);
        }
    }

    @Sentence(in = "Terms, UNDO", says = "when it ends normally, also if it changes nothing.")
    static void undo_aCallThatChangesNothingSavesAState() {
        for (Map.Entry<String, Check.MuralCall> same : sames().entrySet()) {
            Check.undoableWithoutChange(same.getKey(), mural(), same.getValue());
        }
    }

    @Sentence(in = "Terms, UNDO", says = "The saved state is the one from before the call.")
    static void undo_theStateFromBeforeTheCall() {
        LampMural m = new LampMural();
        long before = m.digest();
        m.paint(0, 0, 11, 7, 1);
        m.undo();
        Check.due("the digest after undo() of the first call", m.digest(), before);
        m.paint(0, 0, 11, 7, 2);
        long second = m.digest();
        m.paint(0, 0, 11, 7, 3);
        m.undo();
        Check.due("the digest after undo() of the second call", m.digest(), second);
        m.undo();
        Check.due("the digest after both", m.digest(), before);
    }

    @Sentence(in = "Terms, UNDO", says = "The stack keeps the latest 4 saved states and drops older ones.")
    static void undo_keepsTheLatest4() {
        for (int calls = 0; calls <= 11; calls++) {
            LampMural m = new LampMural();
            for (int i = 0; i < calls; i++) {
                m.burn(1);
            }
            int kept = Math.min(calls, 4);
            for (int left = kept - 1; left >= 0; left--) {
                Check.due("undo() after " + calls + " calls", m.undo(), left);
            }
            Check.due("hours after all undo() of " + calls + " calls", m.whole(12), calls - kept);
            Check.state("one undo() more after " + calls + " calls", m, m::undo);
        }
        LampMural again = burned();
        Check.due("undo() of one of four", again.undo(), 3);
        again.burn(100);
        again.burn(200);
        int[] hours = {107, 7, 3, 1};
        for (int i = 0; i < 4; i++) {
            Check.due("undo() after undo() and two calls", again.undo(), 3 - i);
            Check.due("hours then", again.whole(12), hours[i]);
        }
        Check.state("undo() of a dropped state", again, again::undo);
    }

    @Sentence(in = "Terms, EXCEPTIONS", says = "A call that throws an exception changes nothing.")
    static void exceptions_aRefusedCallChangesNothing() {
        for (Map.Entry<String, Check.MuralCall> refusal : refusals().entrySet()) {
            LampMural m = Check.typed(burned(), "burn 5;");
            long before = m.digest();
            throwsSomething(refusal.getKey(), m, refusal.getValue());
            Check.due("the digest after " + refusal.getKey(), m.digest(), before);
            Check.due("a run after " + refusal.getKey(), m.runCommands(), 1);
            Check.due("hours after " + refusal.getKey(), m.whole(12), 20);
        }
        LampMural full = Check.typed(new LampMural(), "burn 1;" + " ".repeat(143));
        Check.state("type(63) at 150 bytes", full, () -> full.type('?'));
        Check.due("the run of the full text", full.runCommands(), 1);
        full.undo();
        Check.state("undo() of nothing", full, full::undo);
        Check.due("the run after it", full.runCommands(), 1);
        for (int n = 0; n < 8; n++) {
            full.addLamp(1, 1);
        }
        Check.state("addLamp(9, 9) with 8 lamps", full, () -> full.addLamp(9, 9));
        Check.due("greatest light of the lamp 7 after it", full.lamp(7, 0), 1);
    }

    @Sentence(in = "Terms, EXCEPTIONS",
            says = "If several exceptions of a method apply, the one that is listed first is thrown.")
    static void exceptions_theFirstListedIsThrown() {
        LampMural m = mural();
        Check.index("paint(2, 0, 0, 0, 256)", m, () -> m.paint(2, 0, 0, 0, 256));
        Check.index("paint(1, 1, 0, -1, 0)", m, () -> m.paint(1, 1, 0, -1, 0));
        Check.index("paint(0, 0, 0, 2, -1)", m, () -> m.paint(0, 0, 0, 2, -1));
        Check.index("setCorner(1, 0, 41, 0)", m, () -> m.setCorner(1, 0, 41, 0));
        Check.index("setCorner(0, 4, 0, -21)", m, () -> m.setCorner(0, 4, 0, -21));
        Check.index("setRectangle(1, 1, 0, 1, 1)", m, () -> m.setRectangle(1, 1, 0, 1, 1));
        Check.index("setLamp(1, 3, 0)", m, () -> m.setLamp(1, 3, 0));
        Check.index("setLamp(-1, 0, 256)", m, () -> m.setLamp(-1, 0, 256));
        Check.index("place(2, 0, 6)", m, () -> m.place(2, 0, 6));
        Check.index("place(0, -1, -1)", m, () -> m.place(0, -1, -1));
        Check.index("lamp(1, 12)", m, () -> m.lamp(1, 12));
        Check.index("corner(1, 0, 2)", m, () -> m.corner(1, 0, 2));
        Check.index("corner(0, 4, -1)", m, () -> m.corner(0, 4, -1));
        for (int n = 1; n < 8; n++) {
            m.addLamp(1, 1);
        }
        Check.argument("addLamp(-1, 0) with 8 lamps", m, () -> m.addLamp(-1, 0));
        Check.argument("addLamp(0, 256) with 8 lamps", m, () -> m.addLamp(0, 256));
        Check.typed(m, " ".repeat(150));
        Check.argument("type(128) at 150 bytes", m, () -> m.type(128));
        Check.argument("type(-1) at 150 bytes", m, () -> m.type(-1));
    }

    @Sentence(in = "Terms, EXCEPTIONS", says = "NONE is returned only if no exception applies.")
    static void exceptions_noneOnlyWithoutAnException() {
        LampMural m = new LampMural();
        m.addLamp(1, 1);
        Check.due("light of a lamp that covers nothing", m.light(0, 0, 0), LampMural.NONE);
        Check.due("weight of a lamp that covers nothing", m.weight(0, 0, 0), LampMural.NONE);
        Check.due("wrong(0) where all is right", m.wrong(0), LampMural.NONE);
        Check.index("light of no lamp", m, () -> m.light(1, 0, 0));
        Check.index("light at no place", m, () -> m.light(0, 12, 0));
        Check.index("weight of no lamp", m, () -> m.weight(1, 0, 0));
        Check.index("weight at no place", m, () -> m.weight(0, 0, 8));
        Check.argument("wrong(-1) where all is right", m, () -> m.wrong(-1));
        LampMural bare = new LampMural();
        Check.due("dearestLamp() without lamps", bare.dearestLamp(), LampMural.NONE);
        Check.index("light without lamps", bare, () -> bare.light(0, 0, 0));
        Check.index("weight without lamps", bare, () -> bare.weight(0, 0, 0));
    }

    @Sentence(in = "Terms, EXCEPTIONS", says = "`NONE = -1000`: Returned where there is no such value.")
    static void exceptions_noneIsMinus1000() {
        Check.due("NONE", LampMural.NONE, -1000);
        LampMural m = new LampMural();
        Check.due("dearestLamp() without lamps", m.dearestLamp(), -1000);
        Check.due("wrong(0) where all is right", m.wrong(0), -1000);
        m.addLamp(1, 1);
        Check.due("light of a lamp that covers nothing", m.light(0, 0, 0), -1000);
        Check.due("weight of a lamp that covers nothing", m.weight(0, 0, 0), -1000);
    }
}
