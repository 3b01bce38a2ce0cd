/** The sentences of the promises 6 to 10, each with its edges. */
public final class Promises06To10Test {
    private Promises06To10Test() {
    }

    public static void main(String[] args) {
        Sentences.run(Promises06To10Test.class);
    }

    /** A wall of 12 by 8 with one lamp and targets; three saved states. */
    private static LampMural lit() {
        LampMural m = new LampMural();
        m.addLamp(100, 10);
        m.setRectangle(0, 0, 0, 3, 2);
        m.paint(0, 0, 11, 7, 80);
        return m;
    }

    private static LampMural withLamps(int count) {
        LampMural m = new LampMural();
        for (int n = 0; n < count; n++) {
            m.addLamp(100, 10);
        }
        return m;
    }

    /** One place with the target 255 and a lamp that gives all its light: its load is 100. */
    private static LampMural loaded() {
        LampMural m = new LampMural();
        m.begin(1, 1);
        m.paint(0, 0, 0, 0, 255);
        m.addLamp(100, 0);
        m.setRectangle(0, 0, 0, 1, 1);
        return m;
    }

    // ---- promise 6

    @Sentence(in = "Promise 6",
            says = "Sets all corners of a lamp to those of a rectangle: (x, y), (u, y), (u, v), (x, v).")
    static void promise06_setsTheFourCorners() {
        LampMural m = withLamps(8);
        m.setRectangle(7, -20, -19, 40, 39);
        int[] corners = {-20, -19, 40, -19, 40, 39, -20, 39};
        for (int i = 0; i < 8; i++) {
            Check.due("corner value " + i, m.corner(7, i / 2, i % 2), corners[i]);
            Check.due("corner value " + i + " of the lamp 6", m.corner(6, i / 2, i % 2), 0);
        }
        Check.due("it is good", m.lamp(7, 6), 1);
        m.setCorner(7, 1, -20, 40);
        m.setRectangle(7, 0, 0, 1, 1);
        Check.due("it is good again", m.lamp(7, 6), 1);
    }

    @Sentence(in = "Promise 6", says = "Undoable.")
    static void promise06_undoable() {
        Check.undoable("setRectangle(0, 1, 1, 9, 9)", lit(), m -> m.setRectangle(0, 1, 1, 9, 9));
        Check.undoable("setRectangle(0, 39, 39, 40, 40)", lit(), m -> m.setRectangle(0, 39, 39, 40, 40));
        Check.undoableWithoutChange("setRectangle(0, 0, 0, 3, 2)", lit(), m -> m.setRectangle(0, 0, 0, 3, 2));
    }

    @Sentence(in = "Promise 6", says = "`lamp`: number of a lamp")
    static void promise06_numberOfALamp() {
        for (int count = 0; count <= 8; count += 4) {
            LampMural m = withLamps(count);
            Check.indexBeyond("lamp", m, 0, count - 1, n -> m.setRectangle(n, 0, 0, 1, 1));
            if (count > 0) {
                Check.due("the last lamp", m.setRectangle(count - 1, 0, 0, 1, 1), 1);
                Check.due("the lamp 0", m.setRectangle(0, 0, 0, 1, 1), 1);
            }
        }
    }

    @Sentence(in = "Promise 6", says = "`x`: -20 to 39")
    static void promise06_xMinus20To39() {
        LampMural m = withLamps(1);
        m.setRectangle(0, -20, 0, 40, 1);
        Check.due("the least x", m.corner(0, 0, 0), -20);
        m.setRectangle(0, 39, 0, 40, 1);
        Check.due("the greatest x", m.corner(0, 0, 0), 39);
        Check.argumentBeyond("x", m, -20, 39, x -> m.setRectangle(0, x, 0, 40, 1));
        Check.argument("x of 40, u of 41", m, () -> m.setRectangle(0, 40, 0, 41, 1));
    }

    @Sentence(in = "Promise 6", says = "`y`: -20 to 39")
    static void promise06_yMinus20To39() {
        LampMural m = withLamps(1);
        m.setRectangle(0, 0, -20, 1, 40);
        Check.due("the least y", m.corner(0, 0, 1), -20);
        m.setRectangle(0, 0, 39, 1, 40);
        Check.due("the greatest y", m.corner(0, 0, 1), 39);
        Check.argumentBeyond("y", m, -20, 39, y -> m.setRectangle(0, 0, y, 1, 40));
        Check.argument("y of 40, v of 41", m, () -> m.setRectangle(0, 0, 40, 1, 41));
    }

    @Sentence(in = "Promise 6", says = "`u`: above x to 40")
    static void promise06_uAboveXTo40() {
        LampMural m = withLamps(1);
        Check.argumentBeyond("u for x of 5", m, 6, 40, u -> m.setRectangle(0, 5, 0, u, 1));
        Check.argumentBeyond("u for x of -20", m, -19, 40, u -> m.setRectangle(0, -20, 0, u, 1));
        Check.argument("u of x", m, () -> m.setRectangle(0, 5, 0, 5, 1));
        m.setRectangle(0, 5, 0, 6, 1);
        Check.due("u of x + 1", m.corner(0, 2, 0), 6);
        m.setRectangle(0, 5, 0, 40, 1);
        Check.due("u of 40", m.corner(0, 2, 0), 40);
        m.setRectangle(0, -20, 0, -19, 1);
        Check.due("u of -19", m.corner(0, 2, 0), -19);
    }

    @Sentence(in = "Promise 6", says = "`v`: above y to 40")
    static void promise06_vAboveYTo40() {
        LampMural m = withLamps(1);
        Check.argumentBeyond("v for y of 5", m, 6, 40, v -> m.setRectangle(0, 0, 5, 1, v));
        Check.argumentBeyond("v for y of -20", m, -19, 40, v -> m.setRectangle(0, 0, -20, 1, v));
        Check.argument("v of y", m, () -> m.setRectangle(0, 0, 5, 1, 5));
        m.setRectangle(0, 0, 5, 1, 6);
        Check.due("v of y + 1", m.corner(0, 2, 1), 6);
        m.setRectangle(0, 0, 5, 1, 40);
        Check.due("v of 40", m.corner(0, 2, 1), 40);
        m.setRectangle(0, 0, -20, 1, -19);
        Check.due("v of -19", m.corner(0, 2, 1), -19);
    }

    @Sentence(in = "Promise 6", says = "Returns the number of places that it covers then.")
    static void promise06_returnsThePlacesThatItCoversThen() {
        LampMural m = withLamps(1);
        Check.due("one place, the first", m.setRectangle(0, 0, 0, 1, 1), 1);
        Check.due("one place, the last", m.setRectangle(0, 11, 7, 12, 8), 1);
        Check.due("all places", m.setRectangle(0, 0, 0, 12, 8), 96);
        Check.due("all but a column and a row", m.setRectangle(0, 1, 1, 12, 8), 77);
        Check.due("all places and far beyond", m.setRectangle(0, -20, -20, 40, 40), 96);
        Check.due("just left of all", m.setRectangle(0, -1, 0, 0, 8), 0);
        Check.due("just right of all", m.setRectangle(0, 12, 0, 13, 8), 0);
        Check.due("just above all", m.setRectangle(0, 0, -1, 12, 0), 0);
        Check.due("just below all", m.setRectangle(0, 0, 8, 12, 9), 0);
        m.shift(1, 1);
        Check.due("one column of a shifted wall", m.setRectangle(0, 12, 0, 13, 9), 8);
        m.setWorks(0, false);
        Check.due("none, as it has failed", m.setRectangle(0, 0, 0, 12, 8), 0);
        m.begin(24, 16);
        m.setWorks(0, true);
        Check.due("all of the largest wall", m.setRectangle(0, 0, 0, 24, 16), 384);
    }

    @Sentence(in = "Promise 6", says = "Throws `IndexOutOfBoundsException` if there is no such lamp")
    static void promise06_throwsWithoutSuchALamp() {
        LampMural bare = new LampMural();
        Check.index("setRectangle(0, 0, 0, 1, 1) without lamps", bare, () -> bare.setRectangle(0, 0, 0, 1, 1));
        LampMural m = withLamps(8);
        Check.index("setRectangle(8, 0, 0, 1, 1) with 8 lamps", m, () -> m.setRectangle(8, 0, 0, 1, 1));
        Check.index("setRectangle(-1, 1, 0, 1, 1)", m, () -> m.setRectangle(-1, 1, 0, 1, 1));
        Check.index("setRectangle(8, -21, 0, 1, 1)", m, () -> m.setRectangle(8, -21, 0, 1, 1));
    }

    @Sentence(in = "Promise 6", says = "Throws `IllegalArgumentException` if another argument is out of range")
    static void promise06_throwsOutOfRange() {
        LampMural m = withLamps(1);
        int[][] wrong = {{-21, 0, 1, 1}, {0, -21, 1, 1}, {40, 0, 40, 1}, {0, 40, 1, 40}, {0, 0, 0, 1}, {0, 0, 1, 0},
            {0, 0, 41, 1}, {0, 0, 1, 41}, {5, 5, 4, 6}, {5, 5, 6, 4}, {Integer.MIN_VALUE, 0, 1, 1},
            {0, 0, Integer.MAX_VALUE, 1}, {Integer.MAX_VALUE, 0, Integer.MIN_VALUE, 1}};
        for (int[] r : wrong) {
            Check.argument("setRectangle(0, " + r[0] + ", " + r[1] + ", " + r[2] + ", " + r[3] + ")", m,
                    () -> m.setRectangle(0, r[0], r[1], r[2], r[3]));
        }
    }

    // ---- promise 7

    @Sentence(in = "Promise 7", says = "Sets a value of a lamp.")
    static void promise07_setsThatValueAndNoOther() {
        for (int what = 0; what < 3; what++) {
            LampMural m = withLamps(8);
            m.setLamp(7, what, 55);
            for (int other = 0; other < 3; other++) {
                int old = other == 0 ? 100 : other == 1 ? 10 : 0;
                Check.due("lamp(7, " + other + ")", m.lamp(7, other), other == what ? 55 : old);
                Check.due("lamp(6, " + other + ")", m.lamp(6, other), old);
            }
        }
    }

    @Sentence(in = "Promise 7", says = "Undoable.")
    static void promise07_undoable() {
        int[] old = {100, 10, 0};
        for (int what = 0; what < 3; what++) {
            int set = what;
            Check.undoable("setLamp(0, " + what + ", 255)", lit(), m -> m.setLamp(0, set, 255));
            Check.undoableWithoutChange("setLamp(0, " + what + ", " + old[what] + ")", lit(),
                    m -> m.setLamp(0, set, old[set]));
        }
    }

    @Sentence(in = "Promise 7", says = "`lamp`: number of a lamp")
    static void promise07_numberOfALamp() {
        for (int count = 0; count <= 8; count += 4) {
            LampMural m = withLamps(count);
            Check.indexBeyond("lamp", m, 0, count - 1, n -> m.setLamp(n, 0, 1));
            if (count > 0) {
                Check.due("the last lamp", m.setLamp(count - 1, 0, 1), 100);
                Check.due("the lamp 0", m.setLamp(0, 1, 1), 10);
            }
        }
    }

    @Sentence(in = "Promise 7", says = "`what`: 0 greatest light, 1 least light, 2 wear")
    static void promise07_what0To2() {
        LampMural m = withLamps(1);
        m.setLamp(0, 0, 11);
        m.setLamp(0, 1, 22);
        m.setLamp(0, 2, 33);
        Check.due("greatest light", m.lamp(0, 0), 11);
        Check.due("least light", m.lamp(0, 1), 22);
        Check.due("wear", m.lamp(0, 2), 33);
        Check.argumentBeyond("what", m, 0, 2, what -> m.setLamp(0, what, 1));
    }

    @Sentence(in = "Promise 7", says = "`value`: the new value, in its range")
    static void promise07_valueInItsRange() {
        LampMural m = withLamps(1);
        int[] most = {255, 255, 900};
        for (int what = 0; what < 3; what++) {
            int set = what;
            m.setLamp(0, what, most[what]);
            Check.due("lamp(0, " + what + ") at most", m.lamp(0, what), most[what]);
            m.setLamp(0, what, 0);
            Check.due("lamp(0, " + what + ") at least", m.lamp(0, what), 0);
            Check.argumentBeyond("value of " + what, m, 0, most[what], v -> m.setLamp(0, set, v));
        }
        m.setLamp(0, 2, 256);
        Check.due("a wear of 256", m.lamp(0, 2), 256);
    }

    @Sentence(in = "Promise 7", says = "Returns the previous value.")
    static void promise07_returnsThePreviousValue() {
        LampMural m = withLamps(1);
        Check.due("the greatest light before", m.setLamp(0, 0, 255), 100);
        Check.due("the greatest light before 255 again", m.setLamp(0, 0, 255), 255);
        Check.due("the greatest light before 0", m.setLamp(0, 0, 0), 255);
        Check.due("the least light before, above the greatest", m.setLamp(0, 1, 255), 10);
        Check.due("the least light before 0", m.setLamp(0, 1, 0), 255);
        Check.due("the wear before", m.setLamp(0, 2, 900), 0);
        Check.due("the wear before 0", m.setLamp(0, 2, 0), 900);
        m.undo();
        Check.due("the wear before, after undo()", m.setLamp(0, 2, 1), 900);
    }

    @Sentence(in = "Promise 7", says = "Throws `IndexOutOfBoundsException` if there is no such lamp")
    static void promise07_throwsWithoutSuchALamp() {
        LampMural bare = new LampMural();
        Check.index("setLamp(0, 0, 0) without lamps", bare, () -> bare.setLamp(0, 0, 0));
        LampMural m = withLamps(8);
        Check.index("setLamp(8, 0, 0) with 8 lamps", m, () -> m.setLamp(8, 0, 0));
        Check.index("setLamp(-1, 3, 0)", m, () -> m.setLamp(-1, 3, 0));
        Check.index("setLamp(8, 0, 256)", m, () -> m.setLamp(8, 0, 256));
    }

    @Sentence(in = "Promise 7", says = "Throws `IllegalArgumentException` if what or value is out of range")
    static void promise07_throwsOutOfRange() {
        LampMural m = withLamps(1);
        int[][] wrong = {{-1, 0}, {3, 0}, {0, -1}, {0, 256}, {1, -1}, {1, 256}, {2, -1}, {2, 901}, {-1, -1}, {3, 901},
            {Integer.MIN_VALUE, 0}, {2, Integer.MAX_VALUE}};
        for (int[] pair : wrong) {
            Check.argument("setLamp(0, " + pair[0] + ", " + pair[1] + ")", m, () -> m.setLamp(0, pair[0], pair[1]));
        }
    }

    // ---- promise 8

    @Sentence(in = "Promise 8", says = "Lets a lamp work or fail.")
    static void promise08_thatLampAndNoOther() {
        LampMural m = withLamps(8);
        m.setWorks(7, false);
        m.setWorks(0, false);
        for (int n = 0; n < 8; n++) {
            Check.due("lamp(" + n + ", 3)", m.lamp(n, 3), n == 0 || n == 7 ? 0 : 1);
        }
        m.setWorks(7, true);
        Check.due("lamp(7, 3)", m.lamp(7, 3), 1);
        Check.due("lamps that work", m.whole(5), 7);
    }

    @Sentence(in = "Promise 8", says = "Undoable.")
    static void promise08_undoable() {
        Check.undoable("setWorks(0, false)", lit(), m -> m.setWorks(0, false));
        Check.undoableWithoutChange("setWorks(0, true)", lit(), m -> m.setWorks(0, true));
        LampMural failed = withLamps(1);
        failed.setWorks(0, false);
        Check.undoable("setWorks(0, true) of a failed lamp", failed, m -> m.setWorks(0, true));
        Check.undoableWithoutChange("setWorks(0, false) of a failed lamp", failed, m -> m.setWorks(0, false));
    }

    @Sentence(in = "Promise 8", says = "`lamp`: number of a lamp")
    static void promise08_numberOfALamp() {
        for (int count = 0; count <= 8; count += 4) {
            LampMural m = withLamps(count);
            Check.indexBeyond("lamp", m, 0, count - 1, n -> m.setWorks(n, false));
            if (count > 0) {
                Check.due("the last lamp", m.setWorks(count - 1, false), 1);
                Check.due("the lamp 0", m.setWorks(0, false), 1);
            }
        }
    }

    @Sentence(in = "Promise 8", says = "`works`: whether it works then")
    static void promise08_whetherItWorksThen() {
        LampMural m = lit();
        m.setWorks(0, true);
        Check.due("it works after true", m.lamp(0, 3), 1);
        m.setWorks(0, false);
        Check.due("it does not work after false", m.lamp(0, 3), 0);
        Check.due("places that it covers", m.lamp(0, 7), 0);
        m.setWorks(0, false);
        Check.due("it does not work after false again", m.lamp(0, 3), 0);
        m.setWorks(0, true);
        Check.due("it works after true again", m.lamp(0, 3), 1);
        Check.due("places that it covers", m.lamp(0, 7), 6);
    }

    @Sentence(in = "Promise 8", says = "Returns 1 if it worked, otherwise 0.")
    static void promise08_returnsWhetherItWorked() {
        LampMural m = withLamps(1);
        Check.due("true at first", m.setWorks(0, true), 1);
        Check.due("false", m.setWorks(0, false), 1);
        Check.due("false again", m.setWorks(0, false), 0);
        Check.due("true then", m.setWorks(0, true), 0);
        Check.due("true again", m.setWorks(0, true), 1);
        m.setWorks(0, false);
        m.undo();
        Check.due("true after undo() of false", m.setWorks(0, true), 1);
    }

    @Sentence(in = "Promise 8", says = "Throws `IndexOutOfBoundsException` if there is no such lamp")
    static void promise08_throwsWithoutSuchALamp() {
        LampMural bare = new LampMural();
        Check.index("setWorks(0, false) without lamps", bare, () -> bare.setWorks(0, false));
        LampMural m = withLamps(8);
        Check.index("setWorks(8, false) with 8 lamps", m, () -> m.setWorks(8, false));
        Check.index("setWorks(-1, true)", m, () -> m.setWorks(-1, true));
    }

    // ---- promise 9

    @Sentence(in = "Promise 9", says = "Sets the shift of the wall.")
    static void promise09_setsTheShift() {
        LampMural m = lit();
        m.shift(2, -1);
        Check.due("sx", m.whole(2), 2);
        Check.due("sy", m.whole(3), -1);
        Check.due("lamps at (0, 1)", m.place(0, 1, 3), 1);
        Check.due("lamps at (1, 1)", m.place(1, 1, 3), 0);
        m.shift(1, 1);
        Check.due("sx, not added to the one before", m.whole(2), 1);
        Check.due("sy, not added to the one before", m.whole(3), 1);
    }

    @Sentence(in = "Promise 9", says = "Undoable.")
    static void promise09_undoable() {
        Check.undoable("shift(10, 0)", lit(), m -> m.shift(10, 0));
        Check.undoable("shift(0, -10)", lit(), m -> m.shift(0, -10));
        Check.undoableWithoutChange("shift(0, 0)", lit(), m -> m.shift(0, 0));
    }

    @Sentence(in = "Promise 9", says = "`sx`: -10 to 10")
    static void promise09_sxMinus10To10() {
        LampMural m = lit();
        m.shift(-10, 3);
        Check.due("the least sx", m.whole(2), -10);
        m.shift(10, 3);
        Check.due("the greatest sx", m.whole(2), 10);
        Check.argumentBeyond("sx", m, -10, 10, s -> m.shift(s, 3));
    }

    @Sentence(in = "Promise 9", says = "`sy`: -10 to 10")
    static void promise09_syMinus10To10() {
        LampMural m = lit();
        m.shift(3, -10);
        Check.due("the least sy", m.whole(3), -10);
        m.shift(3, 10);
        Check.due("the greatest sy", m.whole(3), 10);
        Check.argumentBeyond("sy", m, -10, 10, s -> m.shift(3, s));
    }

    @Sentence(in = "Promise 9", says = "Returns the number of places whose state is not 0 then.")
    static void promise09_returnsTheWrongPlacesThen() {
        LampMural m = new LampMural();
        Check.due("a dark wall without lamps", m.shift(10, 10), 0);
        m.begin(4, 3);
        m.paint(0, 0, 3, 2, 100);
        Check.due("no lamp at all", m.shift(0, 0), 12);
        m.addLamp(100, 100);
        m.setRectangle(0, 0, 0, 4, 3);
        Check.due("all is right", m.shift(0, 0), 0);
        Check.due("a column is not covered", m.shift(1, 0), 3);
        Check.due("two rows are not covered", m.shift(0, -2), 8);
        Check.due("nothing is covered", m.shift(-10, 10), 12);
        Check.due("all is right again", m.shift(0, 0), 0);
        m.paint(0, 0, 3, 2, 101);
        Check.due("all is too dark", m.shift(0, 0), 12);
        m.paint(0, 0, 3, 2, 0);
        Check.due("all is too bright", m.shift(0, 0), 12);
        Check.due("the covered places are too bright", m.shift(-1, 1), 6);
        m.begin(24, 16);
        m.paint(0, 0, 23, 15, 1);
        Check.due("the largest wall beside the lamp", m.shift(10, 10), 384);
    }

    @Sentence(in = "Promise 9", says = "Throws `IllegalArgumentException` if an argument is out of range")
    static void promise09_throwsOutOfRange() {
        LampMural m = lit();
        int[][] wrong = {{-11, 0}, {11, 0}, {0, -11}, {0, 11}, {11, 11}, {-11, -11}, {Integer.MIN_VALUE, 0},
            {0, Integer.MAX_VALUE}};
        for (int[] pair : wrong) {
            Check.argument("shift(" + pair[0] + ", " + pair[1] + ")", m, () -> m.shift(pair[0], pair[1]));
        }
    }

    // ---- promise 10

    @Sentence(in = "Promise 10", says = "Burns some hours.")
    static void promise10_burnsSomeHours() {
        LampMural m = loaded();
        m.burn(300);
        Check.due("wear", m.lamp(0, 2), 300);
        Check.due("limit", m.lamp(0, 4), 70);
        Check.due("brightness", m.place(0, 0, 1), 70);
        Check.due("hours", m.whole(12), 300);
        m.burn(1);
        Check.due("wear", m.lamp(0, 2), 301);
        Check.due("hours", m.whole(12), 301);
    }

    @Sentence(in = "Promise 10", says = "Undoable.")
    static void promise10_undoable() {
        Check.undoable("burn(1) without lamps", new LampMural(), m -> m.burn(1));
        Check.undoable("burn(9999)", lit(), m -> m.burn(9999));
        Check.undoable("burn(1)", lit(), m -> m.burn(1));
    }

    @Sentence(in = "Promise 10", says = "`hours`: 1 to 9999")
    static void promise10_hours1To9999() {
        LampMural m = new LampMural();
        m.burn(1);
        Check.due("hours", m.whole(12), 1);
        m.burn(9999);
        Check.due("hours", m.whole(12), 10000);
        Check.argumentBeyond("hours", m, 1, 9999, h -> m.burn(h));
    }

    @Sentence(in = "Promise 10", says = "Returns the greatest wear of a lamp then; 0 without lamps.")
    static void promise10_returnsTheGreatestWearThen() {
        Check.due("burn(9999) without lamps", new LampMural().burn(9999), 0);
        LampMural m = loaded();
        Check.due("burn(899)", m.burn(899), 899);
        Check.due("burn(2)", m.burn(2), 900);
        Check.due("burn(9999)", m.burn(9999), 900);
        LampMural failed = loaded();
        failed.addLamp(1, 1);
        failed.setLamp(1, 2, 300);
        failed.setWorks(1, false);
        Check.due("burn(299): the failed lamp's wear is greater", failed.burn(299), 300);
        Check.due("burn(2): it is not any more", failed.burn(2), 301);
        LampMural dark = withLamps(8);
        Check.due("burn(9999) of lamps that cover nothing", dark.burn(9999), 0);
        dark.setLamp(7, 2, 5);
        Check.due("burn(1) with a wear of the last lamp", dark.burn(1), 5);
    }

    @Sentence(in = "Promise 10", says = "Throws `IllegalArgumentException` if hours is out of range")
    static void promise10_throwsOutOfRange() {
        LampMural m = loaded();
        int[] wrong = {0, -1, 10000, -9999, Integer.MIN_VALUE, Integer.MAX_VALUE};
        for (int hours : wrong) {
            Check.argument("burn(" + hours + ")", m, () -> m.burn(hours));
        }
        LampMural bare = new LampMural();
        Check.argument("burn(0) without lamps", bare, () -> bare.burn(0));
        Check.argument("burn(10000) without lamps", bare, () -> bare.burn(10000));
    }
}
