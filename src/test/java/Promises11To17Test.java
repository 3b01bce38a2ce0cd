/** The sentences of the promises 11 to 17, each with its edges. */
public final class Promises11To17Test {
    private Promises11To17Test() {
    }

    public static void main(String[] args) {
        Sentences.run(Promises11To17Test.class);
    }

    /** Two rows of two places: the lamp 0 lights all, the lamp 1 the column 1. */
    private static LampMural twoLamps() {
        LampMural m = new LampMural();
        m.begin(2, 2);
        m.addLamp(90, 30);
        m.addLamp(40, 20);
        m.setRectangle(0, 0, 0, 2, 2);
        m.setRectangle(1, 1, 0, 2, 2);
        m.paint(0, 0, 0, 0, 95);
        m.paint(0, 1, 0, 1, 10);
        m.paint(1, 0, 1, 0, 111);
        m.paint(1, 1, 1, 1, 45);
        return m;
    }

    /** Eight lamps with their greatest light as the least, all on the last place of the largest wall. */
    private static LampMural eightLamps() {
        LampMural m = new LampMural();
        m.begin(24, 16);
        for (int n = 0; n < 8; n++) {
            m.addLamp(255, 255);
            m.setRectangle(n, 23, 15, 24, 16);
        }
        return m;
    }

    private static LampMural withLamps(int count) {
        LampMural m = new LampMural();
        for (int n = 0; n < count; n++) {
            m.addLamp(100, 10);
        }
        return m;
    }

    private static void places(String what, LampMural m, int... due) {
        for (int value = 0; value < due.length; value++) {
            Check.due(what + ": place(0, 0, " + value + ")", m.place(0, 0, value), due[value]);
        }
    }

    private static void lamps(String what, LampMural m, int n, int... due) {
        for (int value = 0; value < due.length; value++) {
            Check.due(what + ": lamp(" + n + ", " + value + ")", m.lamp(n, value), due[value]);
        }
    }

    private static void wholes(String what, LampMural m, int... due) {
        for (int value = 0; value < due.length; value++) {
            Check.due(what + ": whole(" + value + ")", m.whole(value), due[value]);
        }
    }

    // ---- promise 11

    @Sentence(in = "Promise 11", says = "Returns a value of a place.")
    static void promise11_valuesOfEachPlace() {
        LampMural m = twoLamps();
        int[][] values = {{95, 90, 2, 1, 90, 30}, {111, 111, 0, 3, 130, 50}, {10, 30, 3, 1, 90, 30},
            {45, 50, 3, 3, 130, 50}};
        for (int p = 0; p < 4; p++) {
            for (int what = 0; what < 6; what++) {
                Check.due("place(" + p % 2 + ", " + p / 2 + ", " + what + ")", m.place(p % 2, p / 2, what),
                        values[p][what]);
            }
        }
    }

    @Sentence(in = "Promise 11", says = "`x`: a column")
    static void promise11_xIsAColumn() {
        LampMural m = new LampMural();
        m.begin(24, 3);
        m.paint(0, 1, 0, 1, 5);
        m.paint(23, 1, 23, 1, 6);
        Check.due("the first column", m.place(0, 1, 0), 5);
        Check.due("the last column", m.place(23, 1, 0), 6);
        Check.indexBeyond("x", m, 0, 23, x -> m.place(x, 1, 0));
        m.begin(3, 3);
        Check.indexBeyond("x of a smaller wall", m, 0, 2, x -> m.place(x, 1, 0));
    }

    @Sentence(in = "Promise 11", says = "`y`: a row")
    static void promise11_yIsARow() {
        LampMural m = new LampMural();
        m.begin(3, 16);
        m.paint(1, 0, 1, 0, 5);
        m.paint(1, 15, 1, 15, 6);
        Check.due("the first row", m.place(1, 0, 0), 5);
        Check.due("the last row", m.place(1, 15, 0), 6);
        Check.indexBeyond("y", m, 0, 15, y -> m.place(1, y, 0));
        m.begin(3, 3);
        Check.indexBeyond("y of a smaller wall", m, 0, 2, y -> m.place(1, y, 0));
    }

    @Sentence(in = "Promise 11", says = "`what`: 0 target, 1 brightness, 2 state, 3 set of the lamps that cover it")
    static void promise11_what0To5() {
        LampMural bare = new LampMural();
        places("without lamps", bare, 0, 0, 0, 0, 0, 0);
        bare.paint(0, 0, 0, 0, 255);
        places("a target of 255 without lamps", bare, 255, 0, 1, 0, 0, 0);
        places("two lamps", twoLamps(), 95, 90, 2, 1, 90, 30);
        Check.argumentBeyond("what", bare, 0, 5, what -> bare.place(0, 0, what));
        Check.argumentBeyond("what at the last place", bare, 0, 5, what -> bare.place(11, 7, what));
    }

    @Sentence(in = "Promise 11", says = "bit n for the lamp n")
    static void promise11_setOfNoLampToEight() {
        LampMural m = eightLamps();
        Check.due("the set of all eight", m.place(23, 15, 3), 255);
        Check.due("the set of none", m.place(22, 15, 3), 0);
        int left = 255;
        for (int n = 0; n < 8; n += 7) {
            m.setWorks(n, false);
            left -= 1 << n;
            Check.due("the set without the lamp " + n, m.place(23, 15, 3), left);
        }
        for (int n = 1; n < 7; n++) {
            m.setWorks(n, false);
        }
        Check.due("the set of none of eight", m.place(23, 15, 3), 0);
        m.setWorks(7, true);
        Check.due("the set of the lamp 7 alone", m.place(23, 15, 3), 128);
    }

    @Sentence(in = "Promise 11", says = "4 sum of the limits and 5 sum of the floors of these")
    static void promise11_sumsOfLimitsAndFloors() {
        LampMural m = eightLamps();
        Check.due("the limits of eight lamps", m.place(23, 15, 4), 2040);
        Check.due("the floors of eight lamps", m.place(23, 15, 5), 2040);
        Check.due("the limits of none", m.place(22, 15, 4), 0);
        Check.due("the floors of none", m.place(22, 15, 5), 0);
        m.setLamp(7, 2, 900);
        Check.due("the limits with a worn lamp", m.place(23, 15, 4), 7 * 255 + 25);
        Check.due("the floors with a worn lamp", m.place(23, 15, 5), 7 * 255 + 25);
        m.setLamp(7, 1, 24);
        Check.due("the floors with a lower floor", m.place(23, 15, 5), 7 * 255 + 24);
        m.setWorks(0, false);
        Check.due("the limits without a failed lamp", m.place(23, 15, 4), 6 * 255 + 25);
        Check.due("the floors without a failed lamp", m.place(23, 15, 5), 6 * 255 + 24);
    }

    @Sentence(in = "Promise 11", says = "Returns that value.")
    static void promise11_returnsTheValueAsItIsNow() {
        LampMural m = twoLamps();
        Check.due("brightness", m.place(0, 0, 1), 90);
        m.setLamp(0, 0, 95);
        Check.due("brightness after setLamp", m.place(0, 0, 1), 95);
        m.setWorks(0, false);
        Check.due("state after setWorks", m.place(0, 0, 2), 1);
        m.undo();
        Check.due("state after undo()", m.place(0, 0, 2), 0);
        m.shift(2, 0);
        Check.due("set after shift", m.place(0, 0, 3), 0);
        m.shift(0, 0);
        m.setCorner(0, 0, 1, 0);
        Check.due("set after setCorner", m.place(0, 0, 3), 0);
        Check.due("set below it after setCorner", m.place(0, 1, 3), 1);
        m.setCorner(0, 3, 1, 2);
        Check.due("set below it after another setCorner", m.place(0, 1, 3), 0);
    }

    @Sentence(in = "Promise 11", says = "Throws `IndexOutOfBoundsException` if there is no such place")
    static void promise11_throwsWhereIsNoPlace() {
        LampMural m = twoLamps();
        int[][] wrong = {{-1, 0}, {2, 0}, {0, -1}, {0, 2}, {2, 2}, {-1, 1}, {3, 0}, {Integer.MIN_VALUE, 0},
            {0, Integer.MAX_VALUE}};
        for (int[] pair : wrong) {
            Check.index("place(" + pair[0] + ", " + pair[1] + ", 0)", m, () -> m.place(pair[0], pair[1], 0));
            Check.index("place(" + pair[0] + ", " + pair[1] + ", 6)", m, () -> m.place(pair[0], pair[1], 6));
        }
    }

    @Sentence(in = "Promise 11", says = "Throws `IllegalArgumentException` if what is out of range")
    static void promise11_throwsOutOfRange() {
        LampMural m = twoLamps();
        Check.argument("place(0, 0, 6)", m, () -> m.place(0, 0, 6));
        Check.argument("place(0, 0, -1)", m, () -> m.place(0, 0, -1));
        Check.argument("place(1, 1, MAX)", m, () -> m.place(1, 1, Integer.MAX_VALUE));
        Check.argument("place(1, 1, MIN)", m, () -> m.place(1, 1, Integer.MIN_VALUE));
    }

    // ---- promise 12

    @Sentence(in = "Promise 12", says = "Returns the light of a lamp at a place.")
    static void promise12_lightsAtEachPlace() {
        LampMural m = twoLamps();
        int none = LampMural.NONE;
        int[][] lights = {{90, none}, {71, 40}, {30, none}, {30, 20}};
        for (int p = 0; p < 4; p++) {
            for (int n = 0; n < 2; n++) {
                Check.due("light(" + n + ", " + p % 2 + ", " + p / 2 + ")", m.light(n, p % 2, p / 2), lights[p][n]);
            }
        }
    }

    @Sentence(in = "Promise 12", says = "`lamp`: number of a lamp")
    static void promise12_numberOfALamp() {
        for (int count = 0; count <= 8; count += 4) {
            LampMural m = withLamps(count);
            Check.indexBeyond("lamp", m, 0, count - 1, n -> m.light(n, 0, 0));
            if (count > 0) {
                Check.due("the last lamp", m.light(count - 1, 0, 0), LampMural.NONE);
                Check.due("the lamp 0", m.light(0, 0, 0), LampMural.NONE);
            }
        }
        LampMural full = eightLamps();
        Check.due("the light of the lamp 0", full.light(0, 23, 15), 255);
        Check.due("the light of the lamp 7", full.light(7, 23, 15), 255);
    }

    @Sentence(in = "Promise 12", says = "`x`: a column")
    static void promise12_xIsAColumn() {
        LampMural m = eightLamps();
        Check.due("the last column", m.light(0, 23, 15), 255);
        Check.due("the column before", m.light(0, 22, 15), LampMural.NONE);
        Check.due("the column 0", m.light(0, 0, 15), LampMural.NONE);
        Check.indexBeyond("x", m, 0, 23, x -> m.light(0, x, 15));
    }

    @Sentence(in = "Promise 12", says = "`y`: a row")
    static void promise12_yIsARow() {
        LampMural m = eightLamps();
        Check.due("the last row", m.light(7, 23, 15), 255);
        Check.due("the row before", m.light(7, 23, 14), LampMural.NONE);
        Check.due("the row 0", m.light(7, 23, 0), LampMural.NONE);
        Check.indexBeyond("y", m, 0, 15, y -> m.light(7, 23, y));
    }

    @Sentence(in = "Promise 12", says = "Returns the light; NONE if the lamp does not cover it.")
    static void promise12_noneIsNoLightOf0() {
        LampMural m = new LampMural();
        m.addLamp(255, 0);
        m.setRectangle(0, 0, 0, 1, 1);
        Check.due("a light of 0", m.light(0, 0, 0), 0);
        Check.due("beside it", m.light(0, 1, 0), LampMural.NONE);
        m.paint(0, 0, 1, 0, 255);
        Check.due("a light of 255", m.light(0, 0, 0), 255);
        Check.due("beside it, with a target", m.light(0, 1, 0), LampMural.NONE);
        m.setWorks(0, false);
        Check.due("of a failed lamp", m.light(0, 0, 0), LampMural.NONE);
        m.setWorks(0, true);
        m.setCorner(0, 2, 0, 0);
        Check.due("of a lamp that is not good", m.light(0, 0, 0), LampMural.NONE);
    }

    @Sentence(in = "Promise 12", says = "Throws `IndexOutOfBoundsException` if there is no such lamp or place")
    static void promise12_throwsWithoutSuchALampOrPlace() {
        LampMural m = twoLamps();
        int[][] wrong = {{-1, 0, 0}, {2, 0, 0}, {0, -1, 0}, {0, 2, 0}, {0, 0, -1}, {0, 0, 2}, {2, 2, 2}, {-1, -1, -1}};
        for (int[] w : wrong) {
            Check.index("light(" + w[0] + ", " + w[1] + ", " + w[2] + ")", m, () -> m.light(w[0], w[1], w[2]));
        }
    }

    // ---- promise 13

    @Sentence(in = "Promise 13", says = "Returns the weight of a lamp at a place.")
    static void promise13_weightsAtEachPlace() {
        LampMural m = new LampMural();
        m.begin(4, 3);
        m.addLamp(1, 0);
        m.addLamp(1, 0);
        m.setRectangle(0, 0, 0, 4, 3);
        m.setRectangle(1, -2, -2, 7, 7);
        int[][] weights = {{2, 2, 2, 2}, {2, 4, 4, 2}, {2, 2, 2, 2}};
        int[][] more = {{6, 6, 6, 6}, {6, 8, 8, 8}, {6, 8, 10, 8}};
        for (int p = 0; p < 12; p++) {
            Check.due("weight of the lamp 0 at the place " + p, m.weight(0, p % 4, p / 4), weights[p / 4][p % 4]);
            Check.due("weight of the lamp 1 at the place " + p, m.weight(1, p % 4, p / 4), more[p / 4][p % 4]);
        }
    }

    @Sentence(in = "Promise 13", says = "`lamp`: number of a lamp")
    static void promise13_numberOfALamp() {
        for (int count = 0; count <= 8; count += 4) {
            LampMural m = withLamps(count);
            Check.indexBeyond("lamp", m, 0, count - 1, n -> m.weight(n, 0, 0));
            if (count > 0) {
                Check.due("the last lamp", m.weight(count - 1, 0, 0), LampMural.NONE);
                Check.due("the lamp 0", m.weight(0, 0, 0), LampMural.NONE);
            }
        }
        LampMural full = eightLamps();
        Check.due("the weight of the lamp 0", full.weight(0, 23, 15), 2);
        Check.due("the weight of the lamp 7", full.weight(7, 23, 15), 2);
    }

    @Sentence(in = "Promise 13", says = "`x`: a column")
    static void promise13_xIsAColumn() {
        LampMural m = eightLamps();
        Check.due("the last column", m.weight(0, 23, 15), 2);
        Check.due("the column before", m.weight(0, 22, 15), LampMural.NONE);
        Check.due("the column 0", m.weight(0, 0, 15), LampMural.NONE);
        Check.indexBeyond("x", m, 0, 23, x -> m.weight(0, x, 15));
    }

    @Sentence(in = "Promise 13", says = "`y`: a row")
    static void promise13_yIsARow() {
        LampMural m = eightLamps();
        Check.due("the last row", m.weight(7, 23, 15), 2);
        Check.due("the row before", m.weight(7, 23, 14), LampMural.NONE);
        Check.due("the row 0", m.weight(7, 23, 0), LampMural.NONE);
        Check.indexBeyond("y", m, 0, 15, y -> m.weight(7, 23, y));
    }

    @Sentence(in = "Promise 13", says = "Returns the weight; NONE if the lamp does not cover it.")
    static void promise13_noneIfItDoesNotCoverIt() {
        LampMural m = new LampMural();
        m.addLamp(0, 0);
        m.setRectangle(0, 0, 0, 4, 4);
        m.setCorner(0, 3, 0, 0);
        Check.due("the least weight, on the side", m.weight(0, 1, 1), 1);
        Check.due("beyond the side", m.weight(0, 1, 2), LampMural.NONE);
        Check.due("beyond another side", m.weight(0, 4, 1), LampMural.NONE);
        m.shift(0, -1);
        Check.due("the side of a shifted wall", m.weight(0, 1, 2), 1);
        Check.due("beyond the upper side", m.weight(0, 1, 0), LampMural.NONE);
        m.setWorks(0, false);
        Check.due("of a failed lamp", m.weight(0, 1, 2), LampMural.NONE);
        m.setWorks(0, true);
        m.setCorner(0, 1, 0, 0);
        Check.due("of a lamp that is not good", m.weight(0, 1, 2), LampMural.NONE);
    }

    @Sentence(in = "Promise 13", says = "Throws `IndexOutOfBoundsException` if there is no such lamp or place")
    static void promise13_throwsWithoutSuchALampOrPlace() {
        LampMural m = twoLamps();
        int[][] wrong = {{-1, 0, 0}, {2, 0, 0}, {0, -1, 0}, {0, 2, 0}, {0, 0, -1}, {0, 0, 2}, {2, 2, 2}, {-1, -1, -1}};
        for (int[] w : wrong) {
            Check.index("weight(" + w[0] + ", " + w[1] + ", " + w[2] + ")", m, () -> m.weight(w[0], w[1], w[2]));
        }
    }

    // ---- promise 14

    @Sentence(in = "Promise 14", says = "Returns a value of a lamp.")
    static void promise14_valuesOfEachLamp() {
        LampMural m = twoLamps();
        lamps("the first", m, 0, 90, 30, 0, 1, 90, 30, 1, 4, 221, 61, 90, 2);
        lamps("the second", m, 1, 40, 20, 0, 1, 40, 20, 1, 2, 60, 75, 40, 0);
    }

    @Sentence(in = "Promise 14", says = "`lamp`: number of a lamp")
    static void promise14_numberOfALamp() {
        for (int count = 0; count <= 8; count += 4) {
            LampMural m = withLamps(count);
            Check.indexBeyond("lamp", m, 0, count - 1, n -> m.lamp(n, 0));
            if (count > 0) {
                m.setLamp(count - 1, 0, 77);
                Check.due("the last lamp", m.lamp(count - 1, 0), 77);
                Check.due("the lamp 0", m.lamp(0, 0), 100);
            }
        }
    }

    @Sentence(in = "Promise 14",
            says = "`what`: 0 greatest light, 1 least light, 2 wear, 3 1 if it works or 0 if it has failed, 4 limit, 5 floor")
    static void promise14_what0To11() {
        LampMural m = new LampMural();
        m.addLamp(200, 100);
        m.setLamp(0, 2, 900);
        lamps("a worn lamp on no place", m, 0, 200, 100, 900, 1, 20, 20, 0, 0, 0, 0, 0, 0);
        m.setRectangle(0, 0, 0, 1, 1);
        lamps("on one place", m, 0, 200, 100, 900, 1, 20, 20, 1, 1, 20, 100, 20, 1);
        m.setWorks(0, false);
        lamps("failed", m, 0, 200, 100, 900, 0, 20, 20, 1, 0, 0, 0, 0, 0);
        Check.argumentBeyond("what", m, 0, 11, what -> m.lamp(0, what));
    }

    @Sentence(in = "Promise 14", says = "6 1 if its quadrangle is good or 0 if not, 7 places that it covers")
    static void promise14_goodAndPlaces() {
        LampMural m = withLamps(1);
        Check.due("good at first", m.lamp(0, 6), 0);
        Check.due("places at first", m.lamp(0, 7), 0);
        m.setRectangle(0, 20, 20, 21, 21);
        Check.due("good beside the wall", m.lamp(0, 6), 1);
        Check.due("places beside the wall", m.lamp(0, 7), 0);
        m.setRectangle(0, -20, -20, 40, 40);
        Check.due("places of the largest", m.lamp(0, 7), 96);
        m.begin(24, 16);
        Check.due("places of the largest on the largest wall", m.lamp(0, 7), 384);
        m.begin(1, 1);
        Check.due("places of the largest on the least wall", m.lamp(0, 7), 1);
        m.setWorks(0, false);
        Check.due("good though it has failed", m.lamp(0, 6), 1);
        Check.due("places when it has failed", m.lamp(0, 7), 0);
    }

    @Sentence(in = "Promise 14", says = "8 sum of its lights, 9 load")
    static void promise14_sumOfLightsAndLoad() {
        LampMural m = new LampMural();
        m.begin(24, 16);
        m.addLamp(255, 0);
        m.setRectangle(0, 0, 0, 24, 16);
        Check.due("the least sum", m.lamp(0, 8), 0);
        Check.due("its load", m.lamp(0, 9), 0);
        m.paint(0, 0, 23, 15, 255);
        Check.due("the greatest sum", m.lamp(0, 8), 97920);
        Check.due("its load", m.lamp(0, 9), 100);
        m.paint(23, 15, 23, 15, 254);
        Check.due("one less", m.lamp(0, 8), 97919);
        Check.due("its load", m.lamp(0, 9), 99);
        m.setLamp(0, 0, 0);
        Check.due("the sum with a limit of 0", m.lamp(0, 8), 0);
        Check.due("its load", m.lamp(0, 9), 0);
    }

    @Sentence(in = "Promise 14", says = "10 its greatest light at a place (0 if it covers none)")
    static void promise14_greatestLightAtAPlace() {
        LampMural m = new LampMural();
        m.begin(3, 1);
        m.addLamp(255, 0);
        Check.due("of a lamp that covers none", m.lamp(0, 10), 0);
        m.setRectangle(0, 0, 0, 3, 1);
        Check.due("where all lights are 0", m.lamp(0, 10), 0);
        int[][] targets = {{9, 5, 7}, {5, 9, 7}, {5, 7, 9}};
        for (int[] three : targets) {
            for (int x = 0; x < 3; x++) {
                m.paint(x, 0, x, 0, three[x]);
            }
            Check.due("of 5, 7 and 9", m.lamp(0, 10), 9);
        }
        m.paint(0, 0, 0, 0, 255);
        Check.due("of 255", m.lamp(0, 10), 255);
        m.begin(1, 1);
        m.paint(0, 0, 0, 0, 3);
        Check.due("of the only place of a smaller wall", m.lamp(0, 10), 3);
        m.setWorks(0, false);
        Check.due("of a failed lamp", m.lamp(0, 10), 0);
    }

    @Sentence(in = "Promise 14", says = "11 places that it alone covers")
    static void promise14_placesThatItAloneCovers() {
        LampMural m = eightLamps();
        Check.due("the lamp 0 of eight at one place", m.lamp(0, 11), 0);
        Check.due("the lamp 7 of eight at one place", m.lamp(7, 11), 0);
        m.setRectangle(7, 0, 0, 24, 16);
        Check.due("the lamp 7 on all places", m.lamp(7, 11), 383);
        for (int n = 0; n < 7; n++) {
            m.setWorks(n, false);
        }
        Check.due("the lamp 7 beside failed ones", m.lamp(7, 11), 384);
        m.setWorks(0, true);
        Check.due("the lamp 7 beside one that works", m.lamp(7, 11), 383);
        m.setWorks(7, false);
        Check.due("the lamp 0 then", m.lamp(0, 11), 1);
        Check.due("the failed lamp 7", m.lamp(7, 11), 0);
    }

    @Sentence(in = "Promise 14", says = "Returns that value.")
    static void promise14_returnsTheValueAsItIsNow() {
        LampMural m = twoLamps();
        Check.due("sum of the lights", m.lamp(0, 8), 221);
        m.paint(0, 0, 1, 1, 0);
        Check.due("sum of the lights after paint", m.lamp(0, 8), 120);
        m.setLamp(0, 1, 0);
        Check.due("sum of the lights after setLamp", m.lamp(0, 8), 0);
        m.undo();
        Check.due("sum of the lights after undo()", m.lamp(0, 8), 120);
        m.setWorks(1, false);
        Check.due("places that it alone covers after setWorks", m.lamp(0, 11), 4);
        m.begin(1, 1);
        Check.due("places after begin", m.lamp(0, 7), 1);
        m.shift(5, 0);
        Check.due("places after shift", m.lamp(0, 7), 0);
    }

    @Sentence(in = "Promise 14", says = "Throws `IndexOutOfBoundsException` if there is no such lamp")
    static void promise14_throwsWithoutSuchALamp() {
        LampMural bare = new LampMural();
        Check.index("lamp(0, 0) without lamps", bare, () -> bare.lamp(0, 0));
        LampMural m = withLamps(8);
        Check.index("lamp(8, 0) with 8 lamps", m, () -> m.lamp(8, 0));
        Check.index("lamp(-1, 12)", m, () -> m.lamp(-1, 12));
        Check.index("lamp(8, -1)", m, () -> m.lamp(8, -1));
    }

    @Sentence(in = "Promise 14", says = "Throws `IllegalArgumentException` if what is out of range")
    static void promise14_throwsOutOfRange() {
        LampMural m = twoLamps();
        Check.argument("lamp(0, 12)", m, () -> m.lamp(0, 12));
        Check.argument("lamp(0, -1)", m, () -> m.lamp(0, -1));
        Check.argument("lamp(1, MAX)", m, () -> m.lamp(1, Integer.MAX_VALUE));
        Check.argument("lamp(1, MIN)", m, () -> m.lamp(1, Integer.MIN_VALUE));
    }

    // ---- promise 15

    @Sentence(in = "Promise 15", says = "Returns a coordinate of a corner.")
    static void promise15_coordinatesOfEachCorner() {
        LampMural m = withLamps(8);
        for (int k = 0; k < 32; k++) {
            m.setCorner(k / 4, k % 4, k, -k / 2);
        }
        for (int k = 0; k < 32; k++) {
            Check.due("x of the corner " + k, m.corner(k / 4, k % 4, 0), k);
            Check.due("y of the corner " + k, m.corner(k / 4, k % 4, 1), -k / 2);
        }
    }

    @Sentence(in = "Promise 15", says = "`lamp`: number of a lamp")
    static void promise15_numberOfALamp() {
        for (int count = 0; count <= 8; count += 4) {
            LampMural m = withLamps(count);
            Check.indexBeyond("lamp", m, 0, count - 1, n -> m.corner(n, 0, 0));
            if (count > 0) {
                m.setCorner(count - 1, 0, 7, 8);
                Check.due("the last lamp", m.corner(count - 1, 0, 0), 7);
                Check.due("the lamp 0", m.corner(0, 0, 0), 0);
            }
        }
    }

    @Sentence(in = "Promise 15", says = "`corner`: 0 to 3")
    static void promise15_corner0To3() {
        LampMural m = withLamps(2);
        m.setCorner(0, 0, 5, 0);
        m.setCorner(0, 3, 6, 0);
        Check.due("the first corner", m.corner(0, 0, 0), 5);
        Check.due("the last corner", m.corner(0, 3, 0), 6);
        Check.indexBeyond("corner", m, 0, 3, i -> m.corner(0, i, 0));
        Check.indexBeyond("corner of the last lamp", m, 0, 3, i -> m.corner(1, i, 0));
    }

    @Sentence(in = "Promise 15", says = "`axis`: 0 x, 1 y")
    static void promise15_axis0Or1() {
        LampMural m = withLamps(1);
        m.setCorner(0, 2, 5, 6);
        Check.due("the axis 0", m.corner(0, 2, 0), 5);
        Check.due("the axis 1", m.corner(0, 2, 1), 6);
        Check.argumentBeyond("axis", m, 0, 1, axis -> m.corner(0, 2, axis));
    }

    @Sentence(in = "Promise 15", says = "Returns the coordinate.")
    static void promise15_returnsTheEndsOfTheRange() {
        LampMural m = withLamps(1);
        m.setCorner(0, 1, -20, 40);
        Check.due("the least x", m.corner(0, 1, 0), -20);
        Check.due("the greatest y", m.corner(0, 1, 1), 40);
        m.setCorner(0, 1, 40, -20);
        Check.due("the greatest x", m.corner(0, 1, 0), 40);
        Check.due("the least y", m.corner(0, 1, 1), -20);
        m.shift(5, 5);
        Check.due("x on a shifted wall", m.corner(0, 1, 0), 40);
    }

    @Sentence(in = "Promise 15", says = "Throws `IndexOutOfBoundsException` if there is no such lamp or corner")
    static void promise15_throwsWithoutSuchALampOrCorner() {
        LampMural m = withLamps(2);
        int[][] wrong = {{-1, 0}, {2, 0}, {0, -1}, {0, 4}, {1, 4}, {-1, 4}, {8, 3}, {1, -4}};
        for (int[] pair : wrong) {
            Check.index("corner(" + pair[0] + ", " + pair[1] + ", 0)", m, () -> m.corner(pair[0], pair[1], 0));
            Check.index("corner(" + pair[0] + ", " + pair[1] + ", 2)", m, () -> m.corner(pair[0], pair[1], 2));
        }
    }

    @Sentence(in = "Promise 15", says = "Throws `IllegalArgumentException` if axis is out of range")
    static void promise15_throwsOutOfRange() {
        LampMural m = withLamps(1);
        Check.argument("corner(0, 0, 2)", m, () -> m.corner(0, 0, 2));
        Check.argument("corner(0, 0, -1)", m, () -> m.corner(0, 0, -1));
        Check.argument("corner(0, 3, 2)", m, () -> m.corner(0, 3, 2));
        Check.argument("corner(0, 3, MIN)", m, () -> m.corner(0, 3, Integer.MIN_VALUE));
    }

    // ---- promise 16

    @Sentence(in = "Promise 16", says = "Returns a value of the whole.")
    static void promise16_valuesOfTheWhole() {
        LampMural m = twoLamps();
        m.type('a');
        wholes("two lamps", m, 2, 2, 0, 0, 2, 2, 1, 0, 1, 2, 261, 281, 0, 2, 1);
        wholes("a new object", new LampMural(), 12, 8, 0, 0, 0, 0, 96, 0, 0, 0, 0, 0, 0, 0, 0);
    }

    @Sentence(in = "Promise 16", says = "`what`: 0 columns, 1 rows, 2 sx, 3 sy, 4 lamps, 5 lamps that work")
    static void promise16_what0To14() {
        LampMural m = new LampMural();
        m.begin(1, 16);
        m.shift(-10, 10);
        wholes("the least columns", m, 1, 16, -10, 10, 0, 0);
        m.begin(24, 1);
        m.shift(10, -10);
        wholes("the least rows", m, 24, 1, 10, -10, 0, 0);
        Check.argumentBeyond("what", m, 0, 14, what -> m.whole(what));
    }

    @Sentence(in = "Promise 16", says = "4 lamps, 5 lamps that work")
    static void promise16_lampsFrom0To8() {
        LampMural m = new LampMural();
        for (int n = 1; n <= 8; n++) {
            m.addLamp(1, 1);
            Check.due("lamps", m.whole(4), n);
            Check.due("lamps that work", m.whole(5), n);
        }
        for (int n = 0; n < 8; n++) {
            m.setWorks(7 - n, false);
            Check.due("lamps", m.whole(4), 8);
            Check.due("lamps that work", m.whole(5), 7 - n);
        }
    }

    @Sentence(in = "Promise 16", says = "6 to 9 the places with the states 0 to 3")
    static void promise16_placesWithEachState() {
        LampMural m = new LampMural();
        m.begin(4, 1);
        m.addLamp(50, 10);
        m.setRectangle(0, 0, 0, 3, 1);
        m.paint(0, 0, 0, 0, 50);
        m.paint(1, 0, 1, 0, 51);
        m.paint(2, 0, 2, 0, 9);
        m.paint(3, 0, 3, 0, 1);
        for (int state = 0; state < 4; state++) {
            Check.due("one place with the state " + state, m.whole(6 + state), 1);
        }
        m.begin(24, 16);
        Check.due("all places but three with the state 0", m.whole(6), 384 - 3);
        Check.due("three places with the state 3", m.whole(9), 3);
        m.paint(0, 0, 23, 15, 255);
        Check.due("no place with the state 0", m.whole(6), 0);
        Check.due("all places but three with the state 1", m.whole(7), 384 - 3);
        Check.due("three places with the state 2", m.whole(8), 3);
    }

    @Sentence(in = "Promise 16", says = "10 sum of the targets, 11 sum of the brightness, 12 hours")
    static void promise16_sums() {
        LampMural m = new LampMural();
        m.begin(24, 16);
        m.paint(0, 0, 23, 15, 255);
        Check.due("the greatest sum of the targets", m.whole(10), 97920);
        Check.due("no brightness", m.whole(11), 0);
        for (int n = 0; n < 8; n++) {
            m.addLamp(255, 255);
            m.setRectangle(n, 0, 0, 24, 16);
        }
        Check.due("the greatest sum of the brightness", m.whole(11), 8 * 97920);
        m.begin(1, 1);
        Check.due("the sum of the targets of one place", m.whole(10), 0);
        Check.due("the sum of the brightness of one place", m.whole(11), 2040);
        m.begin(2, 5);
        m.paint(0, 0, 1, 4, 3);
        Check.due("the sum of the targets with more rows than columns", m.whole(10), 30);
        Check.due("the sum of the brightness with more rows than columns", m.whole(11), 20400);
        m.burn(9999);
        m.burn(9999);
        Check.due("hours", m.whole(12), 19998);
    }

    @Sentence(in = "Promise 16", says = "13 places that at least two lamps cover")
    static void promise16_placesOfAtLeastTwoLamps() {
        LampMural m = new LampMural();
        m.begin(4, 1);
        for (int n = 0; n < 3; n++) {
            m.addLamp(0, 0);
        }
        Check.due("of no lamp", m.whole(13), 0);
        m.setRectangle(0, 0, 0, 3, 1);
        Check.due("of one lamp", m.whole(13), 0);
        m.setRectangle(1, 1, 0, 4, 1);
        Check.due("of two lamps", m.whole(13), 2);
        m.setRectangle(2, 2, 0, 3, 1);
        Check.due("of three lamps", m.whole(13), 2);
        m.setWorks(0, false);
        Check.due("of two that work", m.whole(13), 1);
        m.setWorks(1, false);
        Check.due("of one that works", m.whole(13), 0);
        LampMural full = eightLamps();
        Check.due("of eight lamps at one place", full.whole(13), 1);
        full.setRectangle(0, 0, 0, 24, 16);
        full.setRectangle(7, 0, 0, 24, 16);
        Check.due("of the lamps 0 and 7 on all places", full.whole(13), 384);
        full.begin(1, 1);
        Check.due("of the lamps 0 and 7 on the only place of a smaller wall", full.whole(13), 1);
        full.begin(2, 5);
        Check.due("of the lamps 0 and 7 with more rows than columns", full.whole(13), 10);
    }

    @Sentence(in = "Promise 16", says = "14 length of the command text")
    static void promise16_lengthOfTheText() {
        LampMural m = new LampMural();
        for (int length = 0; length <= 150; length++) {
            Check.due("length", m.whole(14), length);
            if (length < 150) {
                m.type(127);
            }
        }
        m.runCommands();
        Check.due("length after a run", m.whole(14), 150);
        m.clearCommands();
        Check.due("length after clearCommands()", m.whole(14), 0);
    }

    @Sentence(in = "Promise 16", says = "Returns that value.")
    static void promise16_returnsTheValueAsItIsNow() {
        LampMural m = twoLamps();
        Check.due("sum of the brightness", m.whole(11), 281);
        m.setWorks(0, false);
        Check.due("sum of the brightness after setWorks", m.whole(11), 80);
        m.undo();
        Check.due("sum of the brightness after undo()", m.whole(11), 281);
        Check.typed(m, "fail 1;").runCommands();
        Check.due("sum of the brightness after a run", m.whole(11), 90 + 90 + 30 + 45);
    }

    @Sentence(in = "Promise 16", says = "Throws `IllegalArgumentException` if what is out of range")
    static void promise16_throwsOutOfRange() {
        LampMural m = new LampMural();
        int[] wrong = {-1, 15, 16, -15, Integer.MIN_VALUE, Integer.MAX_VALUE};
        for (int what : wrong) {
            Check.argument("whole(" + what + ")", m, () -> m.whole(what));
        }
    }

    // ---- promise 17

    @Sentence(in = "Promise 17", says = "Returns a place whose state is not 0.")
    static void promise17_placesOfEachWrongState() {
        LampMural m = new LampMural();
        m.begin(4, 1);
        m.addLamp(50, 10);
        m.setRectangle(0, 0, 0, 3, 1);
        m.paint(0, 0, 0, 0, 50);
        m.paint(1, 0, 1, 0, 51);
        m.paint(2, 0, 2, 0, 9);
        m.paint(3, 0, 3, 0, 1);
        int[] places = {1, 2, 3, LampMural.NONE};
        for (int i = 0; i < places.length; i++) {
            Check.due("wrong(" + i + ")", m.wrong(i), places[i]);
        }
    }

    @Sentence(in = "Promise 17", says = "`index`: 0 for the first one, row by row, in each from the column 0 on")
    static void promise17_rowByRow() {
        LampMural m = new LampMural();
        m.paint(11, 0, 11, 0, 1);
        m.paint(0, 1, 0, 1, 1);
        m.paint(2, 3, 3, 3, 1);
        m.paint(0, 7, 0, 7, 1);
        m.paint(11, 7, 11, 7, 1);
        int[] places = {11, 100, 302, 303, 700, 711};
        for (int i = 0; i < places.length; i++) {
            Check.due("wrong(" + i + ")", m.wrong(i), places[i]);
        }
        Check.due("wrong(6)", m.wrong(6), LampMural.NONE);
        m.begin(2, 5);
        m.paint(1, 3, 1, 3, 1);
        m.paint(0, 4, 1, 4, 1);
        int[] tall = {301, 400, 401, LampMural.NONE};
        for (int i = 0; i < tall.length; i++) {
            Check.due("wrong(" + i + ") of a wall with more rows than columns", m.wrong(i), tall[i]);
        }
        m.begin(5, 2);
        m.paint(4, 1, 4, 1, 1);
        Check.due("wrong(0) of a wall with more columns than rows", m.wrong(0), 104);
        Check.due("wrong(1) of it", m.wrong(1), LampMural.NONE);
    }

    @Sentence(in = "Promise 17", says = "Returns 100 * y + x; NONE if there are not so many.")
    static void promise17_noneIfThereAreNotSoMany() {
        LampMural m = new LampMural();
        Check.due("the first where all is right", m.wrong(0), LampMural.NONE);
        m.begin(24, 16);
        m.paint(0, 0, 23, 15, 1);
        Check.due("the first of all", m.wrong(0), 0);
        Check.due("the last of the first row", m.wrong(23), 23);
        Check.due("the first of the next row", m.wrong(24), 100);
        Check.due("the last of all", m.wrong(383), 1523);
        Check.due("one behind the last", m.wrong(384), LampMural.NONE);
        Check.due("far behind the last", m.wrong(Integer.MAX_VALUE), LampMural.NONE);
        m.paint(0, 0, 0, 0, 0);
        Check.due("the first of 383", m.wrong(0), 1);
        Check.due("the last of 383", m.wrong(382), 1523);
        Check.due("one behind the last of 383", m.wrong(383), LampMural.NONE);
        m.begin(1, 1);
        Check.due("the first of a right place", m.wrong(0), LampMural.NONE);
        m.paint(0, 0, 0, 0, 1);
        Check.due("the first of a wrong place", m.wrong(0), 0);
        Check.due("the second of a wrong place", m.wrong(1), LampMural.NONE);
    }

    @Sentence(in = "Promise 17", says = "Throws `IllegalArgumentException` if index is negative")
    static void promise17_throwsIfNegative() {
        LampMural m = new LampMural();
        Check.argument("wrong(-1) where all is right", m, () -> m.wrong(-1));
        Check.argument("wrong(MIN)", m, () -> m.wrong(Integer.MIN_VALUE));
        m.paint(0, 0, 11, 7, 1);
        Check.argument("wrong(-1) where all is wrong", m, () -> m.wrong(-1));
        Check.argument("wrong(-96) where all is wrong", m, () -> m.wrong(-96));
        Check.due("wrong(0)", m.wrong(0), 0);
    }
}
