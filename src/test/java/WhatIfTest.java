/** Promises 18 to 22: what-if questions, which change nothing. */
public final class WhatIfTest {
    private WhatIfTest() {
    }

    public static void main(String[] args) {
        Check.endInTime("WhatIfTest");
        promise18WrongWithout();
        promise19DearestLamp();
        promise20WrongShifted();
        promise21BestShift();
        promise22NeededLimit();
        Check.end("WhatIfTest");
    }

    /** One row of four places with the target 50: the lamp 0 lights two, 1 the next, 2 the last and the next. */
    private static LampMural row() {
        LampMural m = new LampMural();
        m.begin(4, 1);
        m.addLamp(50, 0);
        m.addLamp(20, 0);
        m.addLamp(50, 0);
        m.setRectangle(0, 0, 0, 2, 1);
        m.setRectangle(1, 2, 0, 3, 1);
        m.setRectangle(2, 2, 0, 4, 1);
        m.paint(0, 0, 3, 0, 50);
        return m;
    }

    private static void promise18WrongWithout() {
        LampMural m = row();
        long before = m.digest();
        Check.due("wrongWithout(0)", m.wrongWithout(0), 2);
        Check.due("wrongWithout(1)", m.wrongWithout(1), 0);
        Check.due("wrongWithout(2)", m.wrongWithout(2), 2);
        Check.due("it changes nothing", m.digest(), before);
        m.setWorks(2, false);
        Check.due("wrongWithout(2) when it has failed", m.wrongWithout(2), 2);
        Check.due("wrongWithout(0) then", m.wrongWithout(0), 4);
        m.setWorks(2, true);
        m.setLamp(0, 1, 50);
        m.paint(0, 0, 1, 0, 0);
        Check.due("without a lamp that is too bright", m.wrongWithout(0), 0);
        Check.index("wrongWithout(3)", m, () -> m.wrongWithout(3));
        Check.index("wrongWithout(-1)", m, () -> m.wrongWithout(-1));
        m.shift(1, 0);
        Check.due("wrongWithout(2) on a shifted wall", m.wrongWithout(2), 3);
    }

    private static void promise19DearestLamp() {
        LampMural m = row();
        long before = m.digest();
        Check.due("dearestLamp(), the lowest of several", m.dearestLamp(), 0);
        Check.due("it changes nothing", m.digest(), before);
        m.paint(1, 0, 1, 0, 0);
        Check.due("dearestLamp()", m.dearestLamp(), 2);
        m.paint(0, 0, 3, 0, 0);
        Check.due("dearestLamp() if all are worth the same", m.dearestLamp(), 0);
        Check.due("dearestLamp() without lamps", new LampMural().dearestLamp(), LampMural.NONE);
    }

    private static void promise20WrongShifted() {
        LampMural m = row();
        m.shift(3, 3);
        long before = m.digest();
        Check.due("wrongShifted(0, 0)", m.wrongShifted(0, 0), 0);
        Check.due("wrongShifted(1, 0)", m.wrongShifted(1, 0), 1);
        Check.due("wrongShifted(-3, 0)", m.wrongShifted(-3, 0), 3);
        Check.due("wrongShifted(0, 1)", m.wrongShifted(0, 1), 4);
        Check.due("wrongShifted(10, -10)", m.wrongShifted(10, -10), 4);
        Check.due("it changes nothing", m.digest(), before);
        m.setWorks(0, false);
        Check.due("wrongShifted(0, 0) with a failed lamp", m.wrongShifted(0, 0), 2);
        Check.argument("wrongShifted(11, 0)", m, () -> m.wrongShifted(11, 0));
        Check.argument("wrongShifted(-11, 0)", m, () -> m.wrongShifted(-11, 0));
        Check.argument("wrongShifted(0, 11)", m, () -> m.wrongShifted(0, 11));
        Check.argument("wrongShifted(0, -11)", m, () -> m.wrongShifted(0, -11));
    }

    private static void promise21BestShift() {
        LampMural m = row();
        long before = m.digest();
        Check.due("bestShift(0)", m.bestShift(0), 1010);
        Check.due("bestShift(3)", m.bestShift(3), 1010);
        Check.due("it changes nothing", m.digest(), before);
        m.setRectangle(0, 2, -2, 4, -1);
        m.setRectangle(1, 4, -2, 5, -1);
        m.setRectangle(2, 4, -2, 6, -1);
        Check.due("bestShift(1), of several the least", m.bestShift(1), 909);
        Check.due("bestShift(2)", m.bestShift(2), 812);
        m.shift(2, -2);
        Check.due("bestShift(2) whatever the shift is", m.bestShift(2), 812);
        Check.due("bestShift(0) whatever the shift is", m.bestShift(0), 1010);
        m.setRectangle(0, 3, 3, 5, 4);
        m.setRectangle(1, 5, 3, 6, 4);
        m.setRectangle(2, 5, 3, 7, 4);
        Check.due("bestShift(3) at its edge", m.bestShift(3), 1313);
        LampMural dark = new LampMural();
        dark.begin(24, 16);
        dark.paint(0, 0, 23, 15, 9);
        Check.due("bestShift(1) if all places are always wrong", dark.bestShift(1), 909);
        Check.argument("bestShift(4)", m, () -> m.bestShift(4));
        Check.argument("bestShift(-1)", m, () -> m.bestShift(-1));
    }

    private static void promise22NeededLimit() {
        LampMural m = row();
        long before = m.digest();
        Check.due("neededLimit(0)", m.neededLimit(0), 50);
        Check.due("neededLimit(1)", m.neededLimit(1), 20);
        Check.due("it changes nothing", m.digest(), before);
        m.paint(0, 0, 0, 0, 255);
        m.paint(2, 0, 2, 0, 90);
        Check.due("neededLimit(0) of a place that is too dark", m.neededLimit(0), 255);
        Check.due("neededLimit(1)", m.neededLimit(1), 40);
        Check.due("neededLimit(2)", m.neededLimit(2), 70);
        m.setLamp(0, 1, 50);
        m.paint(0, 0, 1, 0, 20);
        Check.due("neededLimit(0) of places that are too bright", m.neededLimit(0), 20);
        m.setRectangle(1, 0, 0, 2, 1);
        m.setLamp(1, 0, 40);
        m.setLamp(1, 1, 40);
        Check.due("neededLimit(0) below 0", m.neededLimit(0), 0);
        m.setWorks(0, false);
        Check.due("neededLimit(0) that covers none", m.neededLimit(0), 0);
        Check.index("neededLimit(3)", m, () -> m.neededLimit(3));
        Check.index("neededLimit(-1)", m, () -> m.neededLimit(-1));
    }
}
