/** The sentences of the promises 1 to 5, each with its edges. */
public final class Promises01To05Test {
    private Promises01To05Test() {
    }

    public static void main(String[] args) {
        Sentences.run(Promises01To05Test.class);
    }

    /** A wall of 12 by 8 with one lamp and targets; three saved states. */
    private static LampMural lit() {
        LampMural m = new LampMural();
        m.addLamp(100, 10);
        m.setRectangle(0, 0, 0, 3, 2);
        m.paint(0, 0, 11, 7, 80);
        return m;
    }

    private static LampMural withLamps(int count) {
        LampMural m = new LampMural();
        for (int n = 0; n < count; n++) {
            m.addLamp(100, 10);
        }
        return m;
    }

    // ---- promise 1

    @Sentence(in = "Promise 1", says = "Creates a wall of 12 columns and 8 rows")
    static void promise01_wallOf12ColumnsAnd8Rows() {
        LampMural m = new LampMural();
        Check.due("columns", m.whole(0), 12);
        Check.due("rows", m.whole(1), 8);
        Check.due("state of the last place", m.place(11, 7, 2), 0);
        Check.index("the column 12", m, () -> m.place(12, 0, 0));
        Check.index("the row 8", m, () -> m.place(0, 8, 0));
        Check.due("begin(1, 1)", m.begin(1, 1), 96);
    }

    @Sentence(in = "Promise 1", says = "without lamps")
    static void promise01_withoutLamps() {
        LampMural m = new LampMural();
        Check.due("lamps", m.whole(4), 0);
        Check.due("lamps that work", m.whole(5), 0);
        Check.due("dearestLamp()", m.dearestLamp(), LampMural.NONE);
        Check.due("burn(1)", new LampMural().burn(1), 0);
        Check.index("lamp(0, 0)", m, () -> m.lamp(0, 0));
        Check.index("setWorks(0, true)", m, () -> m.setWorks(0, true));
        Check.due("addLamp(1, 1)", m.addLamp(1, 1), 0);
    }

    @Sentence(in = "Promise 1", says = "with targets of 0")
    static void promise01_targetsOf0() {
        LampMural m = new LampMural();
        for (int p = 0; p < 96; p++) {
            Check.due("target of the place " + p, m.place(p % 12, p / 12, 0), 0);
        }
        Check.due("sum of the targets", m.whole(10), 0);
        Check.due("places with the state 0", m.whole(6), 96);
    }

    @Sentence(in = "Promise 1", says = "a shift of 0")
    static void promise01_shiftOf0() {
        LampMural m = new LampMural();
        Check.due("sx", m.whole(2), 0);
        Check.due("sy", m.whole(3), 0);
        m.addLamp(1, 0);
        m.setRectangle(0, 0, 0, 1, 1);
        Check.due("lamps at (0, 0)", m.place(0, 0, 3), 1);
    }

    @Sentence(in = "Promise 1", says = "no hours")
    static void promise01_noHours() {
        Check.due("hours", new LampMural().whole(12), 0);
    }

    @Sentence(in = "Promise 1", says = "an empty command text")
    static void promise01_emptyCommandText() {
        Check.due("length of the text", new LampMural().whole(14), 0);
        Check.due("clearCommands()", new LampMural().clearCommands(), 0);
        Check.due("runCommands()", new LampMural().runCommands(), 0);
        Check.due("type(32)", new LampMural().type(32), 1);
    }

    @Sentence(in = "Promise 1", says = "an empty undo stack.")
    static void promise01_emptyUndoStack() {
        LampMural m = new LampMural();
        Check.state("undo()", m, m::undo);
        m.burn(1);
        Check.due("undo() of the first call", m.undo(), 0);
    }

    @Sentence(in = "Promise 1", says = "`LampMural()`: Creates a wall")
    static void promise01_eachObjectIsNew() {
        LampMural first = lit();
        first.type('x');
        LampMural second = new LampMural();
        Check.due("length of the other text", second.whole(14), 0);
        Check.due("lamps of the other", second.whole(4), 0);
        second.begin(1, 1);
        Check.due("columns of the first", first.whole(0), 12);
        Check.due("sum of the targets of the first", first.whole(10), 96 * 80);
        Check.due("undo() of the second", second.undo(), 0);
    }

    // ---- promise 2

    @Sentence(in = "Promise 2", says = "Begins with another wall: targets of 0")
    static void promise02_targetsOf0() {
        LampMural m = new LampMural();
        m.paint(0, 0, 11, 7, 255);
        m.begin(12, 8);
        Check.due("sum of the targets of a wall of the same size", m.whole(10), 0);
        m.paint(0, 0, 11, 7, 255);
        m.begin(1, 1);
        Check.due("sum of the targets of the least wall", m.whole(10), 0);
        m.begin(24, 16);
        Check.due("sum of the targets of the largest wall", m.whole(10), 0);
        m.paint(0, 0, 23, 15, 255);
        m.begin(23, 16);
        m.begin(24, 16);
        Check.due("sum of the targets of the largest wall again", m.whole(10), 0);
    }

    @Sentence(in = "Promise 2", says = "and a shift of 0")
    static void promise02_shiftOf0() {
        LampMural m = new LampMural();
        m.shift(10, -10);
        m.begin(12, 8);
        Check.due("sx", m.whole(2), 0);
        Check.due("sy", m.whole(3), 0);
    }

    @Sentence(in = "Promise 2", says = "lamps and hours stay.")
    static void promise02_lampsAndHoursStay() {
        LampMural m = lit();
        m.addLamp(50, 60);
        m.setWorks(1, false);
        m.setLamp(1, 2, 100);
        m.burn(7);
        int wear = m.lamp(0, 2);
        m.begin(3, 3);
        int[] first = {100, 10, wear, 1};
        int[] second = {50, 60, 100, 0};
        for (int what = 0; what < 4; what++) {
            Check.due("lamp(0, " + what + ")", m.lamp(0, what), first[what]);
            Check.due("lamp(1, " + what + ")", m.lamp(1, what), second[what]);
        }
        int[] corners = {0, 0, 3, 0, 3, 2, 0, 2};
        for (int i = 0; i < 8; i++) {
            Check.due("corner value " + i, m.corner(0, i / 2, i % 2), corners[i]);
        }
        Check.due("lamps", m.whole(4), 2);
        Check.due("places that the lamp 0 covers", m.lamp(0, 7), 6);
        Check.due("hours", m.whole(12), 7);
    }

    @Sentence(in = "Promise 2", says = "Undoable.")
    static void promise02_undoable() {
        Check.undoable("begin(3, 2)", lit(), m -> m.begin(3, 2));
        Check.undoable("begin(24, 16)", lit(), m -> m.begin(24, 16));
        Check.undoableWithoutChange("begin(12, 8)", new LampMural(), m -> m.begin(12, 8));
    }

    @Sentence(in = "Promise 2", says = "`columns`: 1 to 24")
    static void promise02_columns1To24() {
        LampMural m = new LampMural();
        m.begin(1, 3);
        Check.due("columns", m.whole(0), 1);
        m.begin(24, 3);
        Check.due("columns", m.whole(0), 24);
        Check.due("rows", m.whole(1), 3);
        Check.argumentBeyond("columns", m, 1, 24, c -> m.begin(c, 3));
    }

    @Sentence(in = "Promise 2", says = "`rows`: 1 to 16")
    static void promise02_rows1To16() {
        LampMural m = new LampMural();
        m.begin(3, 1);
        Check.due("rows", m.whole(1), 1);
        m.begin(3, 16);
        Check.due("rows", m.whole(1), 16);
        Check.due("columns", m.whole(0), 3);
        Check.argumentBeyond("rows", m, 1, 16, r -> m.begin(3, r));
    }

    @Sentence(in = "Promise 2", says = "Returns the number of places before.")
    static void promise02_returnsThePlacesBefore() {
        LampMural m = new LampMural();
        Check.due("begin(1, 1) of a new object", m.begin(1, 1), 96);
        Check.due("begin(24, 16)", m.begin(24, 16), 1);
        Check.due("begin(24, 16) again", m.begin(24, 16), 384);
        Check.due("begin(1, 16)", m.begin(1, 16), 384);
        Check.due("begin(24, 1)", m.begin(24, 1), 16);
        Check.due("begin(2, 3)", m.begin(2, 3), 24);
        m.undo();
        Check.due("begin(2, 3) after undo()", m.begin(2, 3), 24);
    }

    @Sentence(in = "Promise 2", says = "Throws `IllegalArgumentException` if an argument is out of range")
    static void promise02_throwsOutOfRange() {
        LampMural m = new LampMural();
        int[][] sizes = {{0, 1}, {25, 1}, {1, 0}, {1, 17}, {0, 0}, {25, 17}, {-1, -1}, {16, 24}, {65536, 65536},
            {Integer.MIN_VALUE, 1}, {1, Integer.MAX_VALUE}};
        for (int[] size : sizes) {
            Check.argument("begin(" + size[0] + ", " + size[1] + ")", m, () -> m.begin(size[0], size[1]));
        }
    }

    // ---- promise 3

    @Sentence(in = "Promise 3", says = "Sets the target of all places of a rectangle.")
    static void promise03_allPlacesOfTheRectangleAndNoOther() {
        LampMural m = new LampMural();
        m.begin(5, 4);
        m.paint(1, 1, 3, 2, 9);
        for (int p = 0; p < 20; p++) {
            int x = p % 5;
            int y = p / 5;
            boolean inside = x >= 1 && x <= 3 && y >= 1 && y <= 2;
            Check.due("target of (" + x + ", " + y + ")", m.place(x, y, 0), inside ? 9 : 0);
        }
        m.paint(4, 3, 4, 3, 7);
        Check.due("target of the last place alone", m.place(4, 3, 0), 7);
        Check.due("sum of the targets", m.whole(10), 6 * 9 + 7);
    }

    @Sentence(in = "Promise 3", says = "Undoable.")
    static void promise03_undoable() {
        Check.undoable("paint(1, 1, 2, 2, 9)", lit(), m -> m.paint(1, 1, 2, 2, 9));
        Check.undoable("paint(11, 7, 11, 7, 255)", lit(), m -> m.paint(11, 7, 11, 7, 255));
        Check.undoableWithoutChange("paint(0, 0, 0, 0, 80)", lit(), m -> m.paint(0, 0, 0, 0, 80));
    }

    @Sentence(in = "Promise 3", says = "`x`: its first column")
    static void promise03_firstColumn() {
        LampMural m = new LampMural();
        Check.due("from the column 0", m.paint(0, 0, 11, 0, 5), 12);
        Check.due("from the column 1", m.paint(1, 0, 11, 0, 6), 11);
        Check.due("from the last column", m.paint(11, 0, 11, 0, 7), 1);
        Check.due("target of (0, 0)", m.place(0, 0, 0), 5);
        Check.due("target of (1, 0)", m.place(1, 0, 0), 6);
        Check.due("target of (11, 0)", m.place(11, 0, 0), 7);
        Check.indexBeyond("first column", m, 0, 11, x -> m.paint(x, 0, 11, 0, 1));
    }

    @Sentence(in = "Promise 3", says = "`y`: its first row")
    static void promise03_firstRow() {
        LampMural m = new LampMural();
        Check.due("from the row 0", m.paint(0, 0, 0, 7, 5), 8);
        Check.due("from the row 1", m.paint(0, 1, 0, 7, 6), 7);
        Check.due("from the last row", m.paint(0, 7, 0, 7, 7), 1);
        Check.due("target of (0, 0)", m.place(0, 0, 0), 5);
        Check.due("target of (0, 1)", m.place(0, 1, 0), 6);
        Check.due("target of (0, 7)", m.place(0, 7, 0), 7);
        Check.indexBeyond("first row", m, 0, 7, y -> m.paint(0, y, 0, 7, 1));
    }

    @Sentence(in = "Promise 3", says = "`u`: its last column, x or more")
    static void promise03_lastColumnXOrMore() {
        LampMural m = new LampMural();
        Check.due("to the column x", m.paint(4, 0, 4, 0, 5), 1);
        Check.due("to the column x + 1", m.paint(4, 0, 5, 0, 6), 2);
        Check.due("to the last column", m.paint(4, 0, 11, 0, 7), 8);
        Check.argument("to the column x - 1", m, () -> m.paint(4, 0, 3, 0, 1));
        Check.argument("to the column 0", m, () -> m.paint(11, 0, 0, 0, 1));
        Check.indexBeyond("last column", m, 0, 11, u -> m.paint(0, 0, u, 0, 1));
    }

    @Sentence(in = "Promise 3", says = "`v`: its last row, y or more")
    static void promise03_lastRowYOrMore() {
        LampMural m = new LampMural();
        Check.due("to the row y", m.paint(0, 4, 0, 4, 5), 1);
        Check.due("to the row y + 1", m.paint(0, 4, 0, 5, 6), 2);
        Check.due("to the last row", m.paint(0, 4, 0, 7, 7), 4);
        Check.argument("to the row y - 1", m, () -> m.paint(0, 4, 0, 3, 1));
        Check.argument("to the row 0", m, () -> m.paint(0, 7, 0, 0, 1));
        Check.indexBeyond("last row", m, 0, 7, v -> m.paint(0, 0, 0, v, 1));
    }

    @Sentence(in = "Promise 3", says = "`target`: 0 to 255")
    static void promise03_target0To255() {
        LampMural m = new LampMural();
        Check.due("the target 255", m.paint(0, 0, 0, 0, 255), 1);
        Check.due("place(0, 0, 0)", m.place(0, 0, 0), 255);
        Check.due("the target 0", m.paint(0, 0, 0, 0, 0), 1);
        Check.due("place(0, 0, 0)", m.place(0, 0, 0), 0);
        Check.argumentBeyond("target", m, 0, 255, t -> m.paint(0, 0, 0, 0, t));
    }

    @Sentence(in = "Promise 3", says = "Returns the number of places whose target was another one.")
    static void promise03_returnsThePlacesThatChange() {
        LampMural m = new LampMural();
        m.begin(24, 16);
        Check.due("none of one", m.paint(0, 0, 0, 0, 0), 0);
        Check.due("none of all", m.paint(0, 0, 23, 15, 0), 0);
        Check.due("one of one", m.paint(3, 3, 3, 3, 1), 1);
        Check.due("all but one", m.paint(0, 0, 23, 15, 1), 383);
        Check.due("all", m.paint(0, 0, 23, 15, 2), 384);
        Check.due("all again", m.paint(0, 0, 23, 15, 2), 0);
    }

    @Sentence(in = "Promise 3", says = "Throws `IndexOutOfBoundsException` if (x, y) or (u, v) is no place")
    static void promise03_throwsWhereIsNoPlace() {
        LampMural m = new LampMural();
        m.begin(5, 4);
        int[][] corners = {{-1, 0, 1, 1}, {0, -1, 1, 1}, {5, 0, 5, 0}, {0, 4, 0, 4}, {0, 0, 5, 0}, {0, 0, 0, 4},
            {5, 0, 4, 0}, {0, 4, 0, 3}, {4, 3, -1, 3}, {4, 3, 4, -1}, {-1, -1, 5, 4}};
        for (int[] c : corners) {
            Check.index("paint(" + c[0] + ", " + c[1] + ", " + c[2] + ", " + c[3] + ", 1)", m,
                    () -> m.paint(c[0], c[1], c[2], c[3], 1));
        }
        Check.due("paint(0, 0, 4, 3, 1)", m.paint(0, 0, 4, 3, 1), 20);
        m.begin(4, 5);
        Check.index("paint(4, 3, 4, 3, 1) of 4 by 5 places", m, () -> m.paint(4, 3, 4, 3, 1));
    }

    @Sentence(in = "Promise 3",
            says = "Throws `IllegalArgumentException` if u is less than x, v less than y, or target is out of range")
    static void promise03_throwsOutOfRange() {
        LampMural m = new LampMural();
        Check.argument("u is less than x by 1", m, () -> m.paint(1, 0, 0, 0, 1));
        Check.argument("v is less than y by 1", m, () -> m.paint(0, 1, 0, 0, 1));
        Check.argument("u is less though v is more", m, () -> m.paint(3, 0, 2, 7, 1));
        Check.argument("v is less though u is more", m, () -> m.paint(0, 3, 11, 2, 1));
        Check.argument("target of 256", m, () -> m.paint(0, 0, 0, 0, 256));
        Check.argument("target of -1", m, () -> m.paint(0, 0, 0, 0, -1));
        Check.due("u is x, v is y", m.paint(3, 3, 3, 3, 1), 1);
    }

    // ---- promise 4

    @Sentence(in = "Promise 4", says = "Adds a lamp.")
    static void promise04_addsALampThatIsNew() {
        LampMural m = new LampMural();
        m.addLamp(90, 80);
        m.setRectangle(0, 1, 1, 3, 3);
        m.setLamp(0, 2, 500);
        m.addLamp(70, 60);
        int[] values = {70, 60, 0, 1, 70, 60, 0, 0, 0, 0, 0, 0};
        for (int what = 0; what < values.length; what++) {
            Check.due("lamp(1, " + what + ")", m.lamp(1, what), values[what]);
        }
        for (int i = 0; i < 8; i++) {
            Check.due("corner value " + i, m.corner(1, i / 2, i % 2), 0);
        }
        Check.due("lamps", m.whole(4), 2);
        Check.due("wear of the lamp 0", m.lamp(0, 2), 500);
        m.setWorks(1, false);
        m.setLamp(1, 2, 7);
        m.setCorner(1, 2, 5, 5);
        m.undo();
        m.undo();
        m.undo();
        m.undo();
        Check.due("addLamp(70, 60) after undo()", m.addLamp(70, 60), 1);
        for (int what = 0; what < values.length; what++) {
            Check.due("lamp(1, " + what + ") after undo()", m.lamp(1, what), values[what]);
        }
        Check.due("corner(1, 2, 0) after undo()", m.corner(1, 2, 0), 0);
    }

    @Sentence(in = "Promise 4", says = "Undoable.")
    static void promise04_undoable() {
        Check.undoable("addLamp(5, 5) without lamps", new LampMural(), m -> m.addLamp(5, 5));
        Check.undoable("addLamp(0, 0)", lit(), m -> m.addLamp(0, 0));
        LampMural seven = withLamps(7);
        seven.undo();
        seven.addLamp(1, 1);
        seven.undo();
        Check.undoable("addLamp(5, 5) as the lamp 6", seven, m -> m.addLamp(5, 5));
    }

    @Sentence(in = "Promise 4", says = "`greatest`: greatest light, 0 to 255")
    static void promise04_greatest0To255() {
        LampMural m = new LampMural();
        m.addLamp(0, 7);
        m.addLamp(255, 7);
        Check.due("greatest light of 0", m.lamp(0, 0), 0);
        Check.due("greatest light of 255", m.lamp(1, 0), 255);
        Check.argumentBeyond("greatest", m, 0, 255, g -> m.addLamp(g, 7));
    }

    @Sentence(in = "Promise 4", says = "`least`: least light, 0 to 255")
    static void promise04_least0To255() {
        LampMural m = new LampMural();
        m.addLamp(7, 0);
        m.addLamp(7, 255);
        Check.due("least light of 0", m.lamp(0, 1), 0);
        Check.due("least light of 255, more than the greatest", m.lamp(1, 1), 255);
        Check.argumentBeyond("least", m, 0, 255, l -> m.addLamp(7, l));
    }

    @Sentence(in = "Promise 4", says = "Returns the number of the lamp.")
    static void promise04_returnsItsNumber() {
        LampMural m = new LampMural();
        for (int n = 0; n < 8; n++) {
            Check.due("addLamp", m.addLamp(1, 1), n);
        }
        m.undo();
        Check.due("addLamp after undo()", m.addLamp(1, 1), 7);
        LampMural failed = withLamps(1);
        failed.setWorks(0, false);
        Check.due("addLamp beside a failed lamp", failed.addLamp(1, 1), 1);
    }

    @Sentence(in = "Promise 4", says = "Throws `IllegalArgumentException` if an argument is out of range")
    static void promise04_throwsOutOfRange() {
        LampMural m = new LampMural();
        int[][] lights = {{-1, 0}, {256, 0}, {0, -1}, {0, 256}, {-1, -1}, {256, 256}, {Integer.MAX_VALUE, 0}};
        for (int[] pair : lights) {
            Check.argument("addLamp(" + pair[0] + ", " + pair[1] + ")", m, () -> m.addLamp(pair[0], pair[1]));
        }
        LampMural full = withLamps(8);
        Check.argument("addLamp(0, 256) with 8 lamps", full, () -> full.addLamp(0, 256));
    }

    @Sentence(in = "Promise 4", says = "Throws `IllegalStateException` if there are 8 lamps")
    static void promise04_throwsWith8Lamps() {
        LampMural seven = withLamps(7);
        Check.due("addLamp with 7 lamps", seven.addLamp(0, 0), 7);
        Check.state("addLamp with 8 lamps", seven, () -> seven.addLamp(0, 0));
        Check.state("addLamp with 8 lamps again", seven, () -> seven.addLamp(255, 255));
        seven.setWorks(3, false);
        Check.state("addLamp with 8 lamps of which one has failed", seven, () -> seven.addLamp(0, 0));
    }

    // ---- promise 5

    @Sentence(in = "Promise 5", says = "Sets a corner of a lamp.")
    static void promise05_setsThatCornerAndNoOther() {
        for (int n = 0; n < 8; n += 7) {
            for (int i = 0; i < 4; i++) {
                LampMural m = withLamps(8);
                m.setCorner(n, i, 5, -6);
                for (int k = 0; k < 32; k++) {
                    boolean same = k == 4 * n + i;
                    Check.due("x of the corner " + k % 4 + " of the lamp " + k / 4, m.corner(k / 4, k % 4, 0),
                            same ? 5 : 0);
                    Check.due("y of the corner " + k % 4 + " of the lamp " + k / 4, m.corner(k / 4, k % 4, 1),
                            same ? -6 : 0);
                }
            }
        }
    }

    @Sentence(in = "Promise 5", says = "Undoable.")
    static void promise05_undoable() {
        Check.undoable("setCorner(0, 0, -20, 40)", lit(), m -> m.setCorner(0, 0, -20, 40));
        Check.undoable("setCorner(0, 3, 0, 3)", lit(), m -> m.setCorner(0, 3, 0, 3));
        Check.undoableWithoutChange("setCorner(0, 2, 3, 2)", lit(), m -> m.setCorner(0, 2, 3, 2));
    }

    @Sentence(in = "Promise 5", says = "`lamp`: number of a lamp")
    static void promise05_numberOfALamp() {
        for (int count = 0; count <= 8; count += 4) {
            LampMural m = withLamps(count);
            Check.indexBeyond("lamp", m, 0, count - 1, n -> m.setCorner(n, 0, 1, 1));
            if (count > 0) {
                m.setCorner(count - 1, 0, 1, 2);
                Check.due("corner of the last lamp", m.corner(count - 1, 0, 1), 2);
            }
        }
    }

    @Sentence(in = "Promise 5", says = "`corner`: 0 to 3")
    static void promise05_corner0To3() {
        LampMural m = withLamps(2);
        for (int i = 0; i < 4; i++) {
            m.setCorner(0, i, i + 1, 9);
            Check.due("corner(0, " + i + ", 0)", m.corner(0, i, 0), i + 1);
        }
        Check.indexBeyond("corner", m, 0, 3, i -> m.setCorner(0, i, 1, 1));
        Check.indexBeyond("corner of the last lamp", m, 0, 3, i -> m.setCorner(1, i, 1, 1));
    }

    @Sentence(in = "Promise 5", says = "`x`: -20 to 40")
    static void promise05_xMinus20To40() {
        LampMural m = withLamps(1);
        m.setCorner(0, 1, -20, 3);
        Check.due("the least x", m.corner(0, 1, 0), -20);
        m.setCorner(0, 1, 40, 3);
        Check.due("the greatest x", m.corner(0, 1, 0), 40);
        Check.argumentBeyond("x", m, -20, 40, x -> m.setCorner(0, 1, x, 3));
    }

    @Sentence(in = "Promise 5", says = "`y`: -20 to 40")
    static void promise05_yMinus20To40() {
        LampMural m = withLamps(1);
        m.setCorner(0, 1, 3, -20);
        Check.due("the least y", m.corner(0, 1, 1), -20);
        m.setCorner(0, 1, 3, 40);
        Check.due("the greatest y", m.corner(0, 1, 1), 40);
        Check.argumentBeyond("y", m, -20, 40, y -> m.setCorner(0, 1, 3, y));
    }

    @Sentence(in = "Promise 5", says = "Returns 1 if its quadrangle is good then, otherwise 0.")
    static void promise05_returnsWhetherItIsGoodThen() {
        LampMural m = withLamps(2);
        Check.due("one corner away from (0, 0)", m.setCorner(1, 1, 4, 0), 0);
        Check.due("two corners away: a triangle", m.setCorner(1, 2, 4, 4), 1);
        Check.due("three corners away: a square", m.setCorner(1, 3, 0, 4), 1);
        Check.due("the least dent", m.setCorner(1, 3, 2, 1), 0);
        Check.due("straight, no dent", m.setCorner(1, 3, 2, 2), 1);
        Check.due("no area", m.setCorner(1, 1, 1, 1), 0);
        m.setRectangle(1, 0, 0, 4, 4);
        m.setWorks(1, false);
        Check.due("good though it has failed", m.setCorner(1, 1, 5, 0), 1);
        m.setRectangle(0, 0, 0, 1, 1);
        Check.due("not good though another lamp's is", m.setCorner(1, 1, 0, 5), 0);
    }

    @Sentence(in = "Promise 5", says = "Throws `IndexOutOfBoundsException` if there is no such lamp or corner")
    static void promise05_throwsWithoutSuchALampOrCorner() {
        LampMural m = withLamps(2);
        int[][] wrong = {{-1, 0}, {2, 0}, {0, -1}, {0, 4}, {1, 4}, {-1, 4}, {8, 3}, {1, -4}};
        for (int[] pair : wrong) {
            Check.index("setCorner(" + pair[0] + ", " + pair[1] + ", 0, 0)", m,
                    () -> m.setCorner(pair[0], pair[1], 0, 0));
            Check.index("setCorner(" + pair[0] + ", " + pair[1] + ", 41, 0)", m,
                    () -> m.setCorner(pair[0], pair[1], 41, 0));
        }
    }

    @Sentence(in = "Promise 5", says = "Throws `IllegalArgumentException` if x or y is out of range")
    static void promise05_throwsOutOfRange() {
        LampMural m = withLamps(1);
        int[][] wrong = {{-21, 0}, {41, 0}, {0, -21}, {0, 41}, {-21, 41}, {Integer.MIN_VALUE, 0}, {0, Integer.MAX_VALUE}};
        for (int[] pair : wrong) {
            Check.argument("setCorner(0, 3, " + pair[0] + ", " + pair[1] + ")", m,
                    () -> m.setCorner(0, 3, pair[0], pair[1]));
        }
    }
}
