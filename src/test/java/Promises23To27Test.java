/** The sentences of the promises 23 to 27, each with its edges. */
public final class Promises23To27Test {
    private Promises23To27Test() {
    }

    public static void main(String[] args) {
        Sentences.run(Promises23To27Test.class);
    }

    private static LampMural full() {
        return Check.typed(new LampMural(), " ".repeat(150));
    }

    private static void hours(String what, LampMural m, int due) {
        Check.due("hours " + what, m.whole(12), due);
    }

    // ---- promise 23

    @Sentence(in = "Promise 23", says = "Appends a byte to the command text.")
    static void promise23_appendsToTheText() {
        LampMural m = new LampMural();
        for (char c : "burn 12".toCharArray()) {
            m.type(c);
        }
        Check.due("a text that ends too soon", m.runCommands(), -17);
        m.type('3');
        m.type(';');
        Check.due("the text with two bytes more", m.runCommands(), 1);
        hours("of the text", m, 123);
        m.type(';');
        Check.due("the text with a byte that cannot stand", m.runCommands(), -19);
        m.clearCommands();
        for (int i = 0; i < 149; i++) {
            m.type(' ');
        }
        m.type('?');
        Check.due("the byte 150 at fault", m.runCommands(), -159);
    }

    @Sentence(in = "Promise 23", says = "Appends a byte to the command text.")
    static void promise23_isNotUndoable() {
        LampMural m = new LampMural();
        m.type(' ');
        Check.state("undo() of type", m, m::undo);
        m.burn(1);
        m.type(' ');
        m.type(' ');
        Check.due("undo() of burn before type", m.undo(), 0);
        Check.due("length of the text then", m.whole(14), 3);
    }

    @Sentence(in = "Promise 23", says = "`value`: 0 to 127")
    static void promise23_value0To127() {
        LampMural m = new LampMural();
        for (int value = 0; value <= 127; value++) {
            Check.due("type(" + value + ")", m.type(value), value + 1);
        }
        Check.argumentBeyond("value", m, 0, 127, m::type);
    }

    @Sentence(in = "Promise 23", says = "Returns the length of the text.")
    static void promise23_returnsTheLength() {
        LampMural m = new LampMural();
        for (int length = 1; length <= 150; length++) {
            Check.due("type(32)", m.type(32), length);
        }
        m.clearCommands();
        Check.due("type(32) after clearCommands()", m.type(32), 1);
        m.runCommands();
        Check.due("type(32) after a run", m.type(32), 2);
        m.undo();
        Check.due("type(32) after undo()", m.type(32), 3);
    }

    @Sentence(in = "Promise 23", says = "Throws `IllegalArgumentException` if value is out of range")
    static void promise23_throwsOutOfRange() {
        LampMural m = new LampMural();
        LampMural full = full();
        int[] wrong = {-1, 128, 255, 256, -128, Integer.MIN_VALUE, Integer.MAX_VALUE};
        for (int value : wrong) {
            Check.argument("type(" + value + ")", m, () -> m.type(value));
            Check.argument("type(" + value + ") at 150 bytes", full, () -> full.type(value));
        }
        Check.due("length of the text", m.whole(14), 0);
    }

    @Sentence(in = "Promise 23", says = "Throws `IllegalStateException` if the text has 150 bytes")
    static void promise23_throwsAt150Bytes() {
        LampMural m = Check.typed(new LampMural(), " ".repeat(149));
        Check.due("type(32) at 149 bytes", m.type(' '), 150);
        Check.state("type(0) at 150 bytes", m, () -> m.type(0));
        Check.state("type(127) at 150 bytes", m, () -> m.type(127));
        Check.due("the run then", m.runCommands(), 0);
        Check.state("type(32) at 150 bytes after a run", m, () -> m.type(32));
        m.clearCommands();
        Check.due("type(127) after clearCommands()", m.type(127), 1);
    }

    // ---- promise 24

    @Sentence(in = "Promise 24", says = "Empties the command text.")
    static void promise24_nothingIsLeft() {
        LampMural m = full();
        m.clearCommands();
        Check.due("length", m.whole(14), 0);
        Check.due("the run of the empty text", m.runCommands(), 0);
        Check.typed(m, "burn 7;");
        m.clearCommands();
        for (char c : "burn 7".toCharArray()) {
            m.type(c);
        }
        Check.due("nothing is left of the old semicolon", m.runCommands(), -16);
        Check.typed(m, "burn 1234;").runCommands();
        m.clearCommands();
        for (char c : "burn 1".toCharArray()) {
            m.type(c);
        }
        Check.due("nothing is left of the old digits", m.runCommands(), -16);
    }

    @Sentence(in = "Promise 24", says = "Empties the command text.")
    static void promise24_isNotUndoable() {
        LampMural m = new LampMural();
        m.clearCommands();
        Check.state("undo() of clearCommands() of nothing", m, m::undo);
        m.burn(1);
        m.type(' ');
        m.clearCommands();
        Check.due("undo() of burn before clearCommands()", m.undo(), 0);
        Check.due("length of the text then", m.whole(14), 0);
    }

    @Sentence(in = "Promise 24", says = "Returns the length that it had.")
    static void promise24_returnsTheLengthBefore() {
        LampMural m = new LampMural();
        Check.due("of a new object", m.clearCommands(), 0);
        m.type(0);
        Check.due("of one byte", m.clearCommands(), 1);
        Check.due("of an emptied text", m.clearCommands(), 0);
        Check.due("of 150 bytes", full().clearCommands(), 150);
        Check.due("of 149 bytes", Check.typed(new LampMural(), "x".repeat(149)).clearCommands(), 149);
    }

    // ---- promise 25

    @Sentence(in = "Promise 25", says = "Runs the command text, which stays as it is.")
    static void promise25_theTextStays() {
        LampMural m = Check.typed(new LampMural(), "burn 2; fail 0;burn 4;");
        for (int run = 1; run <= 3; run++) {
            Check.due("the run " + run, m.runCommands(), 1);
            Check.due("length after the run " + run, m.whole(14), 22);
            hours("after the run " + run, m, 2 * run);
        }
        m.addLamp(1, 1);
        Check.due("the run with a lamp", m.runCommands(), 3);
        hours("after it", m, 12);
        m.type('?');
        Check.due("a run of a fault", m.runCommands(), -32);
        Check.due("length after it", m.whole(14), 23);
        Check.due("a run of the same fault", m.runCommands(), -32);
    }

    @Sentence(in = "Promise 25", says = "Undoable, if it has no fault.")
    static void promise25_undoableWithoutAFault() {
        String[] fine = {"", "   ", "burn 0;", "burn 1;", "burn 1;".repeat(21), "burn 1; burn 0;"};
        for (String text : fine) {
            Check.undoable("the run of '" + text + "'", Check.typed(new LampMural(), text), LampMural::runCommands);
        }
        Check.undoableWithoutChange("the run of no text", new LampMural(), LampMural::runCommands);
        Check.undoableWithoutChange("the run of spaces", full(), LampMural::runCommands);
        Check.undoableWithoutChange("the run of 'burn 0;'", Check.typed(new LampMural(), "burn 0;"),
                LampMural::runCommands);
        String[] faults = {"?", "burn 1", "burn 1;burn 1;x"};
        for (String text : faults) {
            LampMural m = Check.typed(new LampMural(), text);
            m.runCommands();
            Check.state("undo() of the run of '" + text + "'", m, m::undo);
        }
    }

    @Sentence(in = "Promise 25", says = "Returns the number of commands that were carried out")
    static void promise25_returnsTheNumberFrom0To21() {
        for (int count = 0; count <= 21; count++) {
            LampMural m = Check.typed(new LampMural(), "burn 1;".repeat(count));
            Check.due("a run of " + count, m.runCommands(), count);
            hours("after a run of " + count, m, count);
        }
        for (int count = 0; count <= 20; count++) {
            LampMural m = Check.typed(new LampMural(), "burn 1;".repeat(count) + "burn 0;");
            Check.due("a run of " + count + " and one that would throw", m.runCommands(), count);
        }
    }

    @Sentence(in = "Promise 25", says = "-10 minus the fault if it has one.")
    static void promise25_returnsMinus10MinusTheFault() {
        for (int fault = 0; fault < 150; fault += 149) {
            LampMural m = Check.typed(new LampMural(), " ".repeat(fault) + "?");
            Check.due("a fault at " + fault, m.runCommands(), -10 - fault);
        }
        Check.due("a fault at the length 1", Check.typed(new LampMural(), "b").runCommands(), -10);
        Check.due("a fault at the length 4", Check.typed(new LampMural(), "burn").runCommands(), -14);
        Check.due("a fault at the length 150", Check.typed(new LampMural(), " ".repeat(144) + "burn 1").runCommands(),
                -160);
    }

    // ---- promise 26

    @Sentence(in = "Promise 26", says = "Restores the latest saved state and removes it from the undo stack.")
    static void promise26_restoresEachState() {
        LampMural m = new LampMural();
        long[] digests = new long[5];
        Check.MuralCall[] calls = {LampMural::digest, mm -> mm.begin(2, 3), mm -> mm.addLamp(90, 5),
            mm -> mm.setRectangle(0, 0, 0, 2, 3), mm -> mm.paint(0, 0, 1, 2, 60)};
        for (int i = 0; i < 5; i++) {
            calls[i].answer(m);
            digests[i] = m.digest();
        }
        for (int i = 3; i >= 0; i--) {
            m.undo();
            Check.due("the digest after undo() to the state " + i, m.digest(), digests[i]);
        }
        m.begin(2, 3);
        Check.due("the digest after the first call again", m.digest(), digests[1]);
        m.undo();
        Check.due("the digest after undo() of it", m.digest(), digests[0]);
    }

    @Sentence(in = "Promise 26", says = "Restores the latest saved state and removes it from the undo stack.")
    static void promise26_eachValueOfTheState() {
        LampMural m = new LampMural();
        m.begin(24, 16);
        m.paint(0, 0, 23, 15, 100);
        m.addLamp(150, 7);
        m.setRectangle(0, 1, 2, 23, 14);
        m.setLamp(0, 2, 250);
        m.setWorks(0, false);
        m.burn(11);
        m.shift(-3, 4);
        Check.typed(m, "wall 1 1;lamp 1 1;corner 0 0 9 9;corner 0 2 8 8;mend 0;shift 2 2;burn 5;paint 0 0 0 0 3;");
        Check.due("a run that changes all", m.runCommands(), 8);
        m.setLamp(0, 0, 1);
        m.setLamp(0, 1, 1);
        m.setLamp(0, 2, 1);
        for (int left = 3; left >= 0; left--) {
            Check.due("undo()", m.undo(), left);
        }
        int[] wholes = {24, 16, -3, 4, 1, 0, 0, 384, 0, 0, 38400, 0, 11, 0};
        for (int what = 0; what < wholes.length; what++) {
            Check.due("whole(" + what + ") after undo()", m.whole(what), wholes[what]);
        }
        int[] lamps = {150, 7, 250, 0, 112, 7, 1, 0, 0, 0, 0, 0};
        for (int what = 0; what < lamps.length; what++) {
            Check.due("lamp(0, " + what + ") after undo()", m.lamp(0, what), lamps[what]);
        }
        int[] corners = {1, 2, 23, 2, 23, 14, 1, 14};
        for (int i = 0; i < 8; i++) {
            Check.due("corner value " + i + " after undo()", m.corner(0, i / 2, i % 2), corners[i]);
        }
    }

    @Sentence(in = "Promise 26", says = "Returns the number of states that are left on the stack.")
    static void promise26_returnsTheStatesThatAreLeft() {
        LampMural m = new LampMural();
        m.burn(1);
        Check.due("of one", m.undo(), 0);
        for (int i = 0; i < 4; i++) {
            m.burn(1);
        }
        Check.due("of four", m.undo(), 3);
        Check.due("of three", m.undo(), 2);
        m.burn(1);
        Check.due("of three again", m.undo(), 2);
        Check.due("of two", m.undo(), 1);
        Check.due("of one", m.undo(), 0);
        for (int i = 0; i < 5; i++) {
            m.burn(1);
        }
        Check.due("of five, of which four are kept", m.undo(), 3);
    }

    @Sentence(in = "Promise 26", says = "Throws `IllegalStateException` if the stack is empty")
    static void promise26_throwsIfTheStackIsEmpty() {
        LampMural m = new LampMural();
        Check.state("undo() of a new object", m, m::undo);
        m.burn(1);
        m.undo();
        Check.state("undo() after the only one", m, m::undo);
        Check.state("undo() after it again", m, m::undo);
        for (int i = 0; i < 6; i++) {
            m.burn(1);
        }
        for (int i = 0; i < 4; i++) {
            m.undo();
        }
        Check.state("undo() after four of six", m, m::undo);
        hours("that are left", m, 2);
    }

    // ---- promise 27

    /** The hash of values that are known without a call of the object. */
    private static long hashOf(int... values) {
        long h = 43276;
        for (int v : values) {
            h = 31 * h + v;
        }
        return h;
    }

    private static long more(long hash, int... values) {
        long h = hash;
        for (int v : values) {
            h = 31 * h + v;
        }
        return h;
    }

    private static long hashByTheFace(LampMural m, int saved) {
        long h = hashOf(saved);
        for (int what = 0; what <= 14; what++) {
            h = 31 * h + m.whole(what);
        }
        int lamps = m.whole(4);
        for (int n = 0; n < lamps; n++) {
            for (int what = 0; what <= 11; what++) {
                h = 31 * h + m.lamp(n, what);
            }
            for (int i = 0; i < 4; i++) {
                h = more(h, m.corner(n, i, 0), m.corner(n, i, 1));
            }
        }
        int columns = m.whole(0);
        int rows = m.whole(1);
        for (int y = 0; y < rows; y++) {
            for (int x = 0; x < columns; x++) {
                for (int what = 0; what <= 5; what++) {
                    h = 31 * h + m.place(x, y, what);
                }
                for (int n = 0; n < lamps; n++) {
                    h = 31 * h + m.light(n, x, y);
                }
            }
        }
        return h;
    }

    @Sentence(in = "Promise 27", says = "Returns a hash of the state.")
    static void promise27_changesWithTheStateAlone() {
        LampMural m = new LampMural();
        long before = m.digest();
        Check.due("digest() again", m.digest(), before);
        Check.due("digest() of another new object", new LampMural().digest(), before);
        m.type('x');
        Check.due("another digest with another length", m.digest() != before ? 1 : 0, 1);
        m.clearCommands();
        Check.due("digest() of the same state", m.digest(), before);
        m.burn(1);
        Check.due("another digest with other hours", m.digest() != before ? 1 : 0, 1);
        m.undo();
        Check.due("digest() of the same state again", m.digest(), before);
    }

    @Sentence(in = "Promise 27", says = "It starts with h = 43276.")
    static void promise27_startsWith43276() {
        LampMural m = new LampMural();
        m.begin(1, 1);
        m.undo();
        long h = hashOf(0, 12, 8, 0, 0, 0, 0, 96, 0, 0, 0, 0, 0, 0, 0, 0);
        Check.due("digest() of a new wall", m.digest(), more(h, new int[6 * 96]));
        m.begin(1, 1);
        Check.due("digest() of the least wall", m.digest(),
                hashOf(1, 1, 1, 0, 0, 0, 0, 1, 0, 0, 0, 0, 0, 0, 0, 0, 0, 0, 0, 0, 0, 0));
    }

    @Sentence(in = "Promise 27", says = "h becomes 31 * h + v (long arithmetic, overflow wraps).")
    static void promise27_overflowWraps() {
        LampMural m = new LampMural();
        m.begin(24, 16);
        m.paint(0, 0, 23, 15, 255);
        m.shift(-10, -10);
        long h = hashOf(3, 24, 16, -10, -10, 0, 0, 0, 384, 0, 0, 97920, 0, 0, 0, 0);
        for (int p = 0; p < 384; p++) {
            h = more(h, 255, 0, 1, 0, 0, 0);
        }
        Check.due("digest() of the largest wall without lamps", m.digest(), h);
    }

    @Sentence(in = "Promise 27", says = "the number of states on the undo stack; whole() of 0 to 14")
    static void promise27_statesOnTheStackAndWhole() {
        LampMural m = new LampMural();
        m.begin(1, 1);
        int[] saved = {1, 2, 3, 4, 4, 4};
        for (int i = 0; i < saved.length; i++) {
            Check.due("digest() with " + saved[i] + " saved states", m.digest(),
                    hashOf(saved[i], 1, 1, 0, 0, 0, 0, 1, 0, 0, 0, 0, 0, i, 0, 0, 0, 0, 0, 0, 0, 0));
            m.burn(1);
        }
        for (int left = 3; left >= 0; left--) {
            m.undo();
            Check.due("digest() with " + left + " states left", m.digest(),
                    hashOf(left, 1, 1, 0, 0, 0, 0, 1, 0, 0, 0, 0, 0, left + 2, 0, 0, 0, 0, 0, 0, 0, 0));
        }
        Check.typed(m, " ".repeat(150));
        Check.due("digest() with 150 bytes", m.digest(),
                hashOf(0, 1, 1, 0, 0, 0, 0, 1, 0, 0, 0, 0, 0, 2, 0, 150, 0, 0, 0, 0, 0, 0));
    }

    @Sentence(in = "Promise 27", says = "for each lamp lamp() of 0 to 11, then x and y of its corners 0 to 3")
    static void promise27_lamps() {
        LampMural m = new LampMural();
        m.begin(1, 1);
        m.addLamp(200, 250);
        Check.due("digest() with one lamp", m.digest(), more(hashOf(2, 1, 1, 0, 0, 1, 1, 1, 0, 0, 0, 0, 0, 0, 0, 0,
                200, 250, 0, 1, 200, 200, 0, 0, 0, 0, 0, 0), 0, 0, 0, 0, 0, 0, 0, 0, 0, 0, 0, 0, 0, 0, -1000));
        m.setRectangle(0, -1, -2, 3, 4);
        m.paint(0, 0, 0, 0, 100);
        Check.due("digest() with one lamp at the place", m.digest(), more(hashOf(4, 1, 1, 0, 0, 1, 1, 0, 0, 0, 1, 100,
                200, 0, 0, 0, 200, 250, 0, 1, 200, 200, 1, 1, 200, 100, 200, 1), -1, -2, 3, -2, 3, 4, -1, 4, 100, 200,
                3, 1, 200, 200, 200));
        for (int n = 1; n < 8; n++) {
            m.addLamp(10 * n, n);
        }
        m.setRectangle(7, 0, 0, 1, 1);
        Check.due("digest() with eight lamps", m.digest(), hashByTheFace(m, 4));
    }

    @Sentence(in = "Promise 27", says = "for each place, row by row, place() of 0 to 5, and light() of each lamp.")
    static void promise27_places() {
        LampMural m = new LampMural();
        m.begin(3, 2);
        m.addLamp(100, 7);
        m.addLamp(30, 3);
        m.setRectangle(0, 0, 0, 2, 1);
        m.setRectangle(1, 1, 0, 3, 2);
        m.setCorner(1, 3, 0, 2);
        m.paint(0, 0, 2, 0, 99);
        m.paint(0, 1, 1, 1, 2);
        Check.due("digest() of six places", m.digest(), hashByTheFace(m, 4));
        m.shift(0, 1);
        m.burn(40);
        m.setWorks(0, false);
        m.undo();
        Check.due("digest() of six places later", m.digest(), hashByTheFace(m, 3));
    }

    @Sentence(in = "Promise 27", says = "Returns the hash.")
    static void promise27_largestWallWithEightLamps() {
        LampMural m = new LampMural();
        m.begin(24, 16);
        m.paint(0, 0, 23, 15, 1);
        for (int n = 0; n < 8; n++) {
            m.addLamp(255, 9);
        }
        long h = hashOf(4, 24, 16, 0, 0, 8, 8, 0, 384, 0, 0, 384, 0, 0, 0, 0);
        for (int n = 0; n < 8; n++) {
            h = more(h, 255, 9, 0, 1, 255, 9, 0, 0, 0, 0, 0, 0, 0, 0, 0, 0, 0, 0, 0, 0);
        }
        for (int p = 0; p < 384; p++) {
            h = more(h, 1, 0, 1, 0, 0, 0, -1000, -1000, -1000, -1000, -1000, -1000, -1000, -1000);
        }
        Check.due("digest() of 384 places and eight lamps", m.digest(), h);
    }
}
