/** The sentences of the promises 18 to 22, each with its edges. */
public final class Promises18To22Test {
    private Promises18To22Test() {
    }

    public static void main(String[] args) {
        Sentences.run(Promises18To22Test.class);
    }

    /** One row of four places with the target 50: the lamp 0 lights two, 1 the next, 2 the last and the next. */
    private static LampMural row() {
        LampMural m = new LampMural();
        m.begin(4, 1);
        m.addLamp(50, 0);
        m.addLamp(20, 0);
        m.addLamp(50, 0);
        m.setRectangle(0, 0, 0, 2, 1);
        m.setRectangle(1, 2, 0, 3, 1);
        m.setRectangle(2, 2, 0, 4, 1);
        m.paint(0, 0, 3, 0, 50);
        return m;
    }

    /** The largest wall with targets of 9 and a lamp for all of it. */
    private static LampMural largest() {
        LampMural m = new LampMural();
        m.begin(24, 16);
        m.paint(0, 0, 23, 15, 9);
        m.addLamp(9, 0);
        m.setRectangle(0, 0, 0, 24, 16);
        return m;
    }

    /** One place with a target, and lamps on it that are their greatest and least light. */
    private static LampMural place(int target, int[]... lamps) {
        LampMural m = new LampMural();
        m.begin(1, 1);
        m.paint(0, 0, 0, 0, target);
        for (int n = 0; n < lamps.length; n++) {
            m.addLamp(lamps[n][0], lamps[n][1]);
            m.setRectangle(n, 0, 0, 1, 1);
        }
        return m;
    }

    private static LampMural withLamps(int count) {
        LampMural m = new LampMural();
        for (int n = 0; n < count; n++) {
            m.addLamp(100, 10);
        }
        return m;
    }

    private static int[] lamp(int greatest, int least) {
        return new int[] {greatest, least};
    }

    private static void changesNothing(String what, Check.MuralCall call) {
        LampMural m = row();
        m.shift(1, 0);
        m.setWorks(1, false);
        m.type('x');
        long before = m.digest();
        call.answer(m);
        Check.due("the digest after " + what, m.digest(), before);
        Check.due("the brightness after " + what, m.place(0, 0, 1), 50);
        m.undo();
        Check.due("the lamp 1 after " + what + " and undo()", m.lamp(1, 3), 1);
    }

    // ---- the interface's words ahead of them

    @Sentence(in = "Terms, EXCEPTIONS", says = "---- what if, which changes nothing.")
    static void whatIf_changesNothing() {
        for (int n = 0; n < 3; n++) {
            int lamp = n;
            changesNothing("wrongWithout(" + n + ")", m -> m.wrongWithout(lamp));
            changesNothing("neededLimit(" + n + ")", m -> m.neededLimit(lamp));
        }
        changesNothing("dearestLamp()", LampMural::dearestLamp);
        changesNothing("wrongShifted(-10, 10)", m -> m.wrongShifted(-10, 10));
        changesNothing("bestShift(0)", m -> m.bestShift(0));
        changesNothing("bestShift(3)", m -> m.bestShift(3));
    }

    // ---- promise 18

    @Sentence(in = "Promise 18", says = "Counts the places whose state would not be 0 if a lamp had failed.")
    static void promise18_countsAsIfItHadFailed() {
        LampMural m = row();
        Check.due("without the lamp 0", m.wrongWithout(0), 2);
        Check.due("without the lamp 1", m.wrongWithout(1), 0);
        Check.due("without the lamp 2", m.wrongWithout(2), 2);
        m.setWorks(2, false);
        Check.due("without the lamp 2 that has failed", m.wrongWithout(2), 2);
        Check.due("without the lamp 0 too", m.wrongWithout(0), 4);
        m.setWorks(2, true);
        m.shift(1, 0);
        Check.due("without the lamp 2 on a shifted wall", m.wrongWithout(2), 3);
    }

    @Sentence(in = "Promise 18", says = "`lamp`: number of a lamp")
    static void promise18_numberOfALamp() {
        for (int count = 0; count <= 8; count += 4) {
            LampMural m = withLamps(count);
            Check.indexBeyond("lamp", m, 0, count - 1, m::wrongWithout);
            if (count > 0) {
                m.setRectangle(count - 1, 0, 0, 1, 1);
                m.paint(0, 0, 0, 0, 50);
                Check.due("without the last lamp", m.wrongWithout(count - 1), 1);
                Check.due("without the lamp 0", m.wrongWithout(0), 0);
            }
        }
    }

    @Sentence(in = "Promise 18", says = "Returns the number.")
    static void promise18_numberFrom0To384() {
        LampMural m = largest();
        Check.due("all places are wrong without it", m.wrongWithout(0), 384);
        m.paint(23, 15, 23, 15, 0);
        Check.due("all places but a dark one", m.wrongWithout(0), 383);
        m.addLamp(9, 0);
        m.setRectangle(1, 0, 0, 24, 16);
        Check.due("none, as another lamp lights all", m.wrongWithout(0), 0);
        m.setWorks(1, false);
        m.begin(2, 5);
        m.paint(0, 4, 1, 4, 9);
        Check.due("the last row of five of two places", m.wrongWithout(0), 2);
        LampMural bright = place(0, lamp(9, 9));
        Check.due("a place that is too bright", bright.whole(9), 1);
        Check.due("none without the lamp that is too bright", bright.wrongWithout(0), 0);
        LampMural dark = place(0, lamp(9, 0));
        Check.due("none on a dark wall", dark.wrongWithout(0), 0);
    }

    @Sentence(in = "Promise 18", says = "Throws `IndexOutOfBoundsException` if there is no such lamp")
    static void promise18_throwsWithoutSuchALamp() {
        LampMural bare = new LampMural();
        Check.index("wrongWithout(0) without lamps", bare, () -> bare.wrongWithout(0));
        LampMural m = withLamps(8);
        Check.index("wrongWithout(8) with 8 lamps", m, () -> m.wrongWithout(8));
        Check.index("wrongWithout(-1)", m, () -> m.wrongWithout(-1));
        m.undo();
        Check.index("wrongWithout(7) with 7 lamps", m, () -> m.wrongWithout(7));
    }

    // ---- promise 19

    @Sentence(in = "Promise 19",
            says = "Returns the lamp without which the most places would have a state that is not 0.")
    static void promise19_theLampThatIsMissedMost() {
        LampMural m = row();
        m.paint(1, 0, 1, 0, 0);
        Check.due("the last of three", m.dearestLamp(), 2);
        m.paint(2, 0, 3, 0, 0);
        Check.due("the first of three", m.dearestLamp(), 0);
        m.paint(0, 0, 1, 0, 0);
        m.setRectangle(1, 0, 0, 1, 1);
        m.setRectangle(0, 1, 0, 2, 1);
        m.paint(0, 0, 0, 0, 20);
        Check.due("the middle of three", m.dearestLamp(), 1);
        LampMural one = place(9, lamp(9, 0));
        one.setWorks(0, false);
        Check.due("the only lamp, though it has failed", one.dearestLamp(), 0);
        LampMural bright = place(0, lamp(9, 9), lamp(0, 0));
        Check.due("a lamp that lights nothing, as it is not too bright without the other", bright.dearestLamp(), 1);
    }

    @Sentence(in = "Promise 19", says = "Returns the lamp, of several the lowest one; NONE without lamps.")
    static void promise19_theLowestOfSeveralAndNone() {
        Check.due("without lamps", new LampMural().dearestLamp(), LampMural.NONE);
        Check.due("two of three", row().dearestLamp(), 0);
        Check.due("eight without any worth", withLamps(8).dearestLamp(), 0);
        LampMural wrong = new LampMural();
        wrong.paint(0, 0, 11, 7, 1);
        Check.due("without lamps, all places wrong", wrong.dearestLamp(), LampMural.NONE);
        wrong.addLamp(0, 0);
        wrong.addLamp(0, 0);
        Check.due("two without light, all places wrong", wrong.dearestLamp(), 0);
        LampMural m = row();
        m.paint(0, 0, 1, 0, 0);
        m.setRectangle(1, 3, 0, 4, 1);
        m.setLamp(1, 0, 50);
        m.setRectangle(2, 2, 0, 3, 1);
        Check.due("the lamps 1 and 2 of three", m.dearestLamp(), 1);
    }

    // ---- promise 20

    @Sentence(in = "Promise 20", says = "Counts the places whose state would not be 0 with another shift.")
    static void promise20_countsAsIfShifted() {
        LampMural m = row();
        m.shift(3, 3);
        Check.due("without a shift", m.wrongShifted(0, 0), 0);
        Check.due("one to the right", m.wrongShifted(1, 0), 1);
        Check.due("three to the left", m.wrongShifted(-3, 0), 3);
        Check.due("one down", m.wrongShifted(0, 1), 4);
        Check.due("as it is", m.wrongShifted(3, 3), 4);
        m.setWorks(0, false);
        Check.due("with a failed lamp", m.wrongShifted(0, 0), 2);
    }

    @Sentence(in = "Promise 20", says = "`sx`: -10 to 10")
    static void promise20_sxMinus10To10() {
        LampMural m = row();
        m.setRectangle(0, -10, 0, -6, 1);
        Check.due("the least sx", m.wrongShifted(-10, 0), 0);
        m.setRectangle(0, 10, 0, 14, 1);
        Check.due("the greatest sx", m.wrongShifted(10, 0), 0);
        Check.argumentBeyond("sx", m, -10, 10, s -> m.wrongShifted(s, 0));
    }

    @Sentence(in = "Promise 20", says = "`sy`: -10 to 10")
    static void promise20_syMinus10To10() {
        LampMural m = row();
        m.setRectangle(0, 0, -10, 4, -9);
        Check.due("the least sy", m.wrongShifted(0, -10), 0);
        m.setRectangle(0, 0, 10, 4, 11);
        Check.due("the greatest sy", m.wrongShifted(0, 10), 0);
        Check.argumentBeyond("sy", m, -10, 10, s -> m.wrongShifted(0, s));
    }

    @Sentence(in = "Promise 20", says = "Returns the number.")
    static void promise20_numberFrom0To384() {
        LampMural m = largest();
        Check.due("none", m.wrongShifted(0, 0), 0);
        Check.due("one column", m.wrongShifted(1, 0), 16);
        Check.due("one row", m.wrongShifted(0, 1), 24);
        m.setRectangle(0, -20, -20, -15, -15);
        Check.due("all places", m.wrongShifted(0, 0), 384);
        m.begin(2, 5);
        m.paint(0, 4, 1, 4, 9);
        Check.due("the last row of five of two places", m.wrongShifted(0, 0), 2);
        Check.due("none of a dark wall without lamps", new LampMural().wrongShifted(10, 10), 0);
        LampMural bright = place(0, lamp(9, 9));
        Check.due("a place that is too bright", bright.wrongShifted(0, 0), 1);
        Check.due("it is not beside the lamp", bright.wrongShifted(0, 1), 0);
    }

    @Sentence(in = "Promise 20", says = "Throws `IllegalArgumentException` if an argument is out of range")
    static void promise20_throwsOutOfRange() {
        LampMural m = row();
        int[][] wrong = {{-11, 0}, {11, 0}, {0, -11}, {0, 11}, {11, 11}, {-11, -11}, {Integer.MIN_VALUE, 0},
            {0, Integer.MAX_VALUE}};
        for (int[] pair : wrong) {
            Check.argument("wrongShifted(" + pair[0] + ", " + pair[1] + ")", m,
                    () -> m.wrongShifted(pair[0], pair[1]));
        }
    }

    // ---- promise 21

    @Sentence(in = "Promise 21", says = "Returns the shift with the fewest places whose state would not be 0")
    static void promise21_theFewestWrongPlaces() {
        LampMural m = place(9, lamp(9, 0));
        for (int sy = -3; sy <= 3; sy++) {
            for (int sx = -3; sx <= 3; sx++) {
                m.setRectangle(0, sx, sy, sx + 1, sy + 1);
                Check.due("a lamp on (" + sx + ", " + sy + ")", m.bestShift(3), 100 * (sy + 10) + sx + 10);
            }
        }
        LampMural most = largest();
        most.setRectangle(0, 1, -1, 25, 15);
        Check.due("the largest wall, right at one shift alone", most.bestShift(1), 911);
        most.setRectangle(0, 2, 0, 26, 16);
        Check.due("the largest wall, a column wrong at best", most.bestShift(1), 1011);
        Check.due("the largest wall, right farther away", most.bestShift(2), 1012);
        LampMural tall = place(0, lamp(9, 0));
        tall.begin(1, 16);
        tall.paint(0, 15, 0, 15, 9);
        tall.setRectangle(0, 2, 17, 3, 18);
        Check.due("the last of sixteen rows", tall.bestShift(2), 1212);
    }

    @Sentence(in = "Promise 21", says = "of the shifts whose sx and sy are at most some number in size")
    static void promise21_atMostThatSize() {
        LampMural m = place(9, lamp(9, 0));
        for (int most = 0; most <= 3; most++) {
            m.setRectangle(0, most, most, most + 1, most + 1);
            Check.due("just within " + most, m.bestShift(most), 100 * (most + 10) + most + 10);
            m.setRectangle(0, -most, -most, 1 - most, 1 - most);
            Check.due("just within -" + most, m.bestShift(most), 100 * (10 - most) + 10 - most);
            m.setRectangle(0, most + 1, 0, most + 2, 1);
            Check.due("just beyond " + most, m.bestShift(most), 100 * (10 - most) + 10 - most);
            m.setRectangle(0, 0, most + 1, 1, most + 2);
            Check.due("just below " + most, m.bestShift(most), 100 * (10 - most) + 10 - most);
        }
    }

    @Sentence(in = "Promise 21", says = "(whatever the shift is now).")
    static void promise21_whateverTheShiftIsNow() {
        LampMural m = place(9, lamp(9, 0));
        m.setRectangle(0, 1, -2, 2, -1);
        int[][] shifts = {{0, 0}, {1, -2}, {10, 10}, {-10, -10}, {3, 3}};
        for (int[] s : shifts) {
            m.shift(s[0], s[1]);
            Check.due("at a shift of " + s[0] + " and " + s[1], m.bestShift(3), 811);
            Check.due("of 0 at a shift of " + s[0] + " and " + s[1], m.bestShift(0), 1010);
        }
    }

    @Sentence(in = "Promise 21", says = "`most`: 0 to 3")
    static void promise21_most0To3() {
        LampMural m = new LampMural();
        Check.due("most of 0", m.bestShift(0), 1010);
        Check.due("most of 1", m.bestShift(1), 909);
        Check.due("most of 2", m.bestShift(2), 808);
        Check.due("most of 3", m.bestShift(3), 707);
        Check.argumentBeyond("most", m, 0, 3, m::bestShift);
    }

    @Sentence(in = "Promise 21", says = "Returns 100 * (sy + 10) + (sx + 10), of several the least number.")
    static void promise21_theLeastNumberOfSeveral() {
        LampMural m = place(9, lamp(9, 0), lamp(9, 0));
        m.setRectangle(0, 3, 0, 4, 1);
        m.setRectangle(1, -3, 1, -2, 2);
        Check.due("the lower sy, though the greater sx", m.bestShift(3), 1013);
        m.setRectangle(1, -3, 0, -2, 1);
        Check.due("the lower sx of one sy", m.bestShift(3), 1007);
        m.setRectangle(0, 0, 0, 1, 1);
        Check.due("the lower sx, though 0 is right too", m.bestShift(3), 1007);
        LampMural wrong = new LampMural();
        wrong.begin(24, 16);
        wrong.paint(0, 0, 23, 15, 1);
        Check.due("all 384 places always wrong", wrong.bestShift(3), 707);
    }

    @Sentence(in = "Promise 21", says = "Throws `IllegalArgumentException` if most is out of range")
    static void promise21_throwsOutOfRange() {
        LampMural m = row();
        int[] wrong = {-1, 4, 10, -3, Integer.MIN_VALUE, Integer.MAX_VALUE};
        for (int most : wrong) {
            Check.argument("bestShift(" + most + ")", m, () -> m.bestShift(most));
        }
    }

    // ---- promise 22

    @Sentence(in = "Promise 22", says = "if all other lights there were as they are.")
    static void promise22_otherLightsAsTheyAre() {
        LampMural m = row();
        Check.due("the lamp 0", m.neededLimit(0), 50);
        Check.due("the lamp 1 beside the lamp 2", m.neededLimit(1), 20);
        m.paint(2, 0, 2, 0, 90);
        Check.due("the lamp 1 where 20 is missing", m.neededLimit(1), 40);
        Check.due("the lamp 2 where 20 is missing", m.neededLimit(2), 70);
        LampMural two = place(100, lamp(30, 0), lamp(20, 0));
        Check.due("the lamp 0 of two that are too dark", two.neededLimit(0), 80);
        Check.due("the lamp 1 of two that are too dark", two.neededLimit(1), 70);
    }

    @Sentence(in = "Promise 22", says = "`lamp`: number of a lamp")
    static void promise22_numberOfALamp() {
        for (int count = 0; count <= 8; count += 4) {
            LampMural m = withLamps(count);
            Check.indexBeyond("lamp", m, 0, count - 1, m::neededLimit);
            if (count > 0) {
                m.setRectangle(count - 1, 0, 0, 1, 1);
                m.paint(0, 0, 0, 0, 255);
                Check.due("the last lamp", m.neededLimit(count - 1), 255);
                Check.due("the lamp 0", m.neededLimit(0), 0);
            }
        }
    }

    @Sentence(in = "Promise 22", says = "Returns the greatest number, over all places that it covers, of its light plus target"
            + " minus brightness")
    static void promise22_theGreatestOverItsPlaces() {
        LampMural m = new LampMural();
        m.begin(4, 1);
        m.addLamp(50, 0);
        m.setRectangle(0, 0, 0, 3, 1);
        int[][] targets = {{90, 60, 70}, {60, 90, 70}, {60, 70, 90}};
        for (int[] three : targets) {
            for (int x = 0; x < 3; x++) {
                m.paint(x, 0, x, 0, three[x]);
            }
            m.paint(3, 0, 3, 0, 255);
            Check.due("of 60, 70 and 90", m.neededLimit(0), 90);
        }
        m.paint(0, 0, 0, 0, 255);
        Check.due("the greatest of all", m.neededLimit(0), 255);
        m.paint(0, 0, 2, 0, 0);
        Check.due("of a dark wall", m.neededLimit(0), 0);
        m.paint(2, 0, 2, 0, 1);
        Check.due("of one target of 1", m.neededLimit(0), 1);
        m.begin(1, 16);
        m.setRectangle(0, 0, 0, 1, 16);
        m.paint(0, 15, 0, 15, 77);
        Check.due("of the last of sixteen rows", m.neededLimit(0), 77);
        m.begin(1, 1);
        Check.due("of the only place of a smaller wall", m.neededLimit(0), 0);
    }

    @Sentence(in = "Promise 22", says = "0 if that is below 0, or it covers none.")
    static void promise22_zeroIfBelow0OrNoPlace() {
        Check.due("39 + 40 - 79", place(40, lamp(40, 40), lamp(40, 39)).neededLimit(1), 0);
        Check.due("just above 0", place(41, lamp(40, 40), lamp(40, 40)).neededLimit(0), 1);
        Check.due("just 0", place(40, lamp(40, 40), lamp(40, 40)).neededLimit(0), 0);
        Check.due("just below 0", place(39, lamp(40, 40), lamp(40, 40)).neededLimit(0), 0);
        Check.due("far below 0", place(0, lamp(255, 255), lamp(255, 255)).neededLimit(1), 0);
        LampMural m = place(255, lamp(255, 0));
        m.setWorks(0, false);
        Check.due("a failed lamp", m.neededLimit(0), 0);
        m.setWorks(0, true);
        Check.due("the same when it works", m.neededLimit(0), 255);
        m.setRectangle(0, 1, 0, 2, 1);
        Check.due("a lamp beside the wall", m.neededLimit(0), 0);
        m.setCorner(0, 2, 0, 0);
        Check.due("a lamp that is not good", m.neededLimit(0), 0);
    }

    @Sentence(in = "Promise 22", says = "Throws `IndexOutOfBoundsException` if there is no such lamp")
    static void promise22_throwsWithoutSuchALamp() {
        LampMural bare = new LampMural();
        Check.index("neededLimit(0) without lamps", bare, () -> bare.neededLimit(0));
        LampMural m = withLamps(8);
        Check.index("neededLimit(8) with 8 lamps", m, () -> m.neededLimit(8));
        Check.index("neededLimit(-1)", m, () -> m.neededLimit(-1));
        m.undo();
        Check.index("neededLimit(7) with 7 lamps", m, () -> m.neededLimit(7));
    }
}
