/** Promises 1 to 10: a new object, and the calls that set the wall and the lamps. */
public final class WallAndLampsTest {
    private WallAndLampsTest() {
    }

    public static void main(String[] args) {
        Check.endInTime("WallAndLampsTest");
        promise1NewObject();
        promise2Begin();
        promise3Paint();
        promise4AddLamp();
        promise5SetCorner();
        promise6SetRectangle();
        promise7SetLamp();
        promise8SetWorks();
        promise9Shift();
        promise10Burn();
        Check.end("WallAndLampsTest");
    }

    private static void promise1NewObject() {
        LampMural m = new LampMural();
        int[] whole = {12, 8, 0, 0, 0, 0, 96, 0, 0, 0, 0, 0, 0, 0, 0};
        for (int what = 0; what < whole.length; what++) {
            Check.due("whole(" + what + ") of a new object", m.whole(what), whole[what]);
        }
        Check.due("place(11, 7, 0) of a new object", m.place(11, 7, 0), 0);
        Check.due("dearestLamp() of a new object", m.dearestLamp(), -1000);
        Check.due("runCommands() of a new object", new LampMural().runCommands(), 0);
        Check.state("undo() of a new object", m, m::undo);
        Check.due("NONE", LampMural.NONE, -1000);
    }

    private static void promise2Begin() {
        LampMural m = new LampMural();
        m.addLamp(100, 5);
        m.setRectangle(0, 0, 0, 3, 2);
        m.paint(0, 0, 11, 7, 80);
        m.shift(2, -3);
        m.burn(10);
        Check.due("begin(24, 16)", m.begin(24, 16), 96);
        Check.due("begin(1, 1)", m.begin(1, 1), 384);
        Check.due("begin(3, 2)", m.begin(3, 2), 1);
        Check.due("columns", m.whole(0), 3);
        Check.due("rows", m.whole(1), 2);
        Check.due("sx", m.whole(2), 0);
        Check.due("sy", m.whole(3), 0);
        Check.due("lamps stay", m.whole(4), 1);
        Check.due("hours stay", m.whole(12), 10);
        Check.due("targets are 0", m.whole(10), 0);
        Check.due("the lamp covers all", m.lamp(0, 7), 6);
        Check.argument("begin(0, 1)", m, () -> m.begin(0, 1));
        Check.argument("begin(25, 1)", m, () -> m.begin(25, 1));
        Check.argument("begin(1, 0)", m, () -> m.begin(1, 0));
        Check.argument("begin(1, 17)", m, () -> m.begin(1, 17));
        Check.argument("begin(MIN, MAX)", m, () -> m.begin(Integer.MIN_VALUE, Integer.MAX_VALUE));
        LampMural n = new LampMural();
        n.paint(0, 0, 0, 0, 7);
        n.begin(12, 8);
        Check.due("undo() of begin", n.undo(), 1);
        Check.due("the target before begin", n.place(0, 0, 0), 7);
        nothingStaysOfALargerWall();
    }

    private static void nothingStaysOfALargerWall() {
        LampMural m = new LampMural();
        m.begin(24, 16);
        m.addLamp(9, 9);
        m.addLamp(9, 9);
        m.setRectangle(0, 0, 0, 24, 16);
        m.setRectangle(1, 12, 0, 24, 16);
        Check.due("all places are too bright", m.whole(9), 384);
        m.begin(1, 1);
        Check.due("the only place is too bright", m.whole(9), 1);
        Check.due("wrong(1)", m.wrong(1), LampMural.NONE);
        Check.due("sum of the brightness", m.whole(11), 9);
        Check.due("places of several lamps", m.whole(13), 0);
        Check.due("places of the lamp 1", m.lamp(1, 7), 0);
        Check.due("sum of the lights of the lamp 0", m.lamp(0, 8), 9);
        Check.due("places of the lamp 0 alone", m.lamp(0, 11), 1);
        Check.due("wrongWithout(1)", m.wrongWithout(1), 1);
        m.begin(2, 1);
        Check.due("sum of the brightness of two places", m.whole(11), 18);
    }

    private static void promise3Paint() {
        LampMural m = new LampMural();
        m.begin(5, 4);
        Check.due("paint(1, 1, 3, 2, 9)", m.paint(1, 1, 3, 2, 9), 6);
        Check.due("paint(0, 0, 4, 3, 9)", m.paint(0, 0, 4, 3, 9), 14);
        Check.due("paint(2, 3, 2, 3, 255)", m.paint(2, 3, 2, 3, 255), 1);
        Check.due("paint(2, 3, 2, 3, 255) again", m.paint(2, 3, 2, 3, 255), 0);
        Check.due("place(2, 3, 0)", m.place(2, 3, 0), 255);
        Check.due("place(1, 3, 0)", m.place(1, 3, 0), 9);
        Check.due("sum of the targets", m.whole(10), 19 * 9 + 255);
        Check.due("undo() of a paint that changed nothing", m.undo(), 3);
        Check.due("place(2, 3, 0) after it", m.place(2, 3, 0), 255);
        m.undo();
        Check.due("place(2, 3, 0) before", m.place(2, 3, 0), 9);
        Check.index("paint(-1, 0, 1, 1, 1)", m, () -> m.paint(-1, 0, 1, 1, 1));
        Check.index("paint(0, -1, 1, 1, 1)", m, () -> m.paint(0, -1, 1, 1, 1));
        Check.index("paint(0, 0, 5, 1, 1)", m, () -> m.paint(0, 0, 5, 1, 1));
        Check.index("paint(0, 0, 1, 4, 1)", m, () -> m.paint(0, 0, 1, 4, 1));
        Check.index("paint(5, 0, 4, 0, 1)", m, () -> m.paint(5, 0, 4, 0, 1));
        Check.index("paint(0, 0, 5, 0, 256)", m, () -> m.paint(0, 0, 5, 0, 256));
        Check.argument("paint(2, 0, 1, 0, 1)", m, () -> m.paint(2, 0, 1, 0, 1));
        Check.argument("paint(0, 2, 0, 1, 1)", m, () -> m.paint(0, 2, 0, 1, 1));
        Check.argument("paint(0, 0, 0, 0, 256)", m, () -> m.paint(0, 0, 0, 0, 256));
        Check.argument("paint(0, 0, 0, 0, -1)", m, () -> m.paint(0, 0, 0, 0, -1));
    }

    private static void promise4AddLamp() {
        LampMural m = new LampMural();
        Check.due("addLamp(0, 255)", m.addLamp(0, 255), 0);
        m.undo();
        Check.due("addLamp(255, 0)", m.addLamp(255, 0), 0);
        m.undo();
        Check.argument("addLamp(256, 0)", m, () -> m.addLamp(256, 0));
        Check.argument("addLamp(-1, 0)", m, () -> m.addLamp(-1, 0));
        Check.argument("addLamp(0, 256)", m, () -> m.addLamp(0, 256));
        Check.argument("addLamp(0, -1)", m, () -> m.addLamp(0, -1));
        for (int n = 0; n < 8; n++) {
            Check.due("addLamp", m.addLamp(255 - n, n), n);
        }
        Check.due("its greatest light", m.lamp(7, 0), 248);
        Check.due("its least light", m.lamp(7, 1), 7);
        Check.due("its wear", m.lamp(7, 2), 0);
        Check.due("it works", m.lamp(7, 3), 1);
        Check.due("its quadrangle is not good", m.lamp(7, 6), 0);
        Check.state("addLamp(255, 255)", m, () -> m.addLamp(255, 255));
        Check.argument("addLamp(256, 0) with 8 lamps", m, () -> m.addLamp(256, 0));
        Check.due("undo()", m.undo(), 3);
        Check.due("lamps", m.whole(4), 7);
        lampIsNewAfterUndo();
    }

    private static void lampIsNewAfterUndo() {
        LampMural m = new LampMural();
        m.addLamp(9, 9);
        m.setRectangle(0, 1, 1, 3, 3);
        m.setLamp(0, 2, 500);
        m.setWorks(0, false);
        m.undo();
        m.undo();
        m.undo();
        Check.due("undo() of addLamp", m.undo(), 0);
        Check.due("addLamp(8, 7)", m.addLamp(8, 7), 0);
        int[] values = {8, 7, 0, 1, 8, 7, 0, 0, 0, 0, 0, 0};
        for (int what = 0; what < values.length; what++) {
            Check.due("lamp(0, " + what + ") of the new lamp", m.lamp(0, what), values[what]);
        }
        Check.due("its corner 2", m.corner(0, 2, 0), 0);
    }

    private static void promise5SetCorner() {
        LampMural m = new LampMural();
        m.addLamp(1, 0);
        Check.due("setCorner(0, 1, 40, 0)", m.setCorner(0, 1, 40, 0), 0);
        Check.due("setCorner(0, 2, 40, 40)", m.setCorner(0, 2, 40, 40), 1);
        Check.due("setCorner(0, 3, -20, 40)", m.setCorner(0, 3, -20, 40), 1);
        Check.due("corner(0, 3, 0)", m.corner(0, 3, 0), -20);
        Check.due("setCorner(0, 3, 5, 3): a dent", m.setCorner(0, 3, 5, 3), 0);
        Check.due("setCorner(0, 3, 3, 5)", m.setCorner(0, 3, 3, 5), 1);
        m.setCorner(0, 3, 5, 3);
        m.setCorner(0, 3, 3, 5);
        Check.due("undo() of it", m.undo(), 3);
        Check.due("corner(0, 3, 0) after it", m.corner(0, 3, 0), 5);
        Check.index("setCorner(1, 0, 0, 0)", m, () -> m.setCorner(1, 0, 0, 0));
        Check.index("setCorner(-1, 0, 0, 0)", m, () -> m.setCorner(-1, 0, 0, 0));
        Check.index("setCorner(0, 4, 0, 0)", m, () -> m.setCorner(0, 4, 0, 0));
        Check.index("setCorner(0, -1, 41, 0)", m, () -> m.setCorner(0, -1, 41, 0));
        Check.argument("setCorner(0, 0, 41, 0)", m, () -> m.setCorner(0, 0, 41, 0));
        Check.argument("setCorner(0, 0, -21, 0)", m, () -> m.setCorner(0, 0, -21, 0));
        Check.argument("setCorner(0, 0, 0, 41)", m, () -> m.setCorner(0, 0, 0, 41));
        Check.argument("setCorner(0, 0, 0, -21)", m, () -> m.setCorner(0, 0, 0, -21));
        m.setRectangle(0, 0, 0, 4, 4);
        m.setCorner(0, 1, 0, 4);
        Check.due("the other way round", m.setCorner(0, 3, 4, 0), 0);
        LampMural back = new LampMural();
        back.addLamp(1, 1);
        back.setCorner(0, 1, 4, 0);
        Check.due("corners on one line, no area", back.setCorner(0, 2, 8, 0), 0);
        back.setCorner(0, 0, 0, 1);
        back.setCorner(0, 1, 0, 0);
        back.setCorner(0, 2, 1, 0);
        Check.due("the least triangle", back.setCorner(0, 3, 1, 0), 1);
        Check.due("places that it covers", back.lamp(0, 7), 1);
        back.setCorner(0, 0, 0, 0);
        back.setCorner(0, 1, 2, 1);
        back.setCorner(0, 3, 0, 5);
        Check.due("the least dent", back.setCorner(0, 2, 3, 1), 0);
        Check.due("straight on, no dent", back.setCorner(0, 2, 4, 2), 1);
    }

    private static void promise6SetRectangle() {
        LampMural m = new LampMural();
        m.addLamp(1, 0);
        Check.due("setRectangle(0, 1, 2, 4, 4)", m.setRectangle(0, 1, 2, 4, 4), 6);
        int[] corners = {1, 2, 4, 2, 4, 4, 1, 4};
        for (int i = 0; i < corners.length; i++) {
            Check.due("corner value " + i, m.corner(0, i / 2, i % 2), corners[i]);
        }
        Check.due("setRectangle(0, -20, -20, 40, 40)", m.setRectangle(0, -20, -20, 40, 40), 96);
        Check.due("setRectangle(0, 39, 39, 40, 40)", m.setRectangle(0, 39, 39, 40, 40), 0);
        Check.due("setRectangle(0, 11, 7, 12, 8)", m.setRectangle(0, 11, 7, 12, 8), 1);
        m.setWorks(0, false);
        Check.due("setRectangle of a failed lamp", m.setRectangle(0, 0, 0, 12, 8), 0);
        Check.due("undo()", m.undo(), 3);
        Check.due("corner(0, 0, 0) after undo", m.corner(0, 0, 0), 11);
        Check.index("setRectangle(1, 0, 0, 1, 1)", m, () -> m.setRectangle(1, 0, 0, 1, 1));
        Check.index("setRectangle(-1, 5, 0, 1, 1)", m, () -> m.setRectangle(-1, 5, 0, 1, 1));
        Check.argument("setRectangle(0, -21, 0, 1, 1)", m, () -> m.setRectangle(0, -21, 0, 1, 1));
        Check.argument("setRectangle(0, 0, -21, 1, 1)", m, () -> m.setRectangle(0, 0, -21, 1, 1));
        Check.argument("setRectangle(0, 1, 0, 1, 1)", m, () -> m.setRectangle(0, 1, 0, 1, 1));
        Check.argument("setRectangle(0, 0, 1, 1, 1)", m, () -> m.setRectangle(0, 0, 1, 1, 1));
        Check.argument("setRectangle(0, 0, 0, 41, 1)", m, () -> m.setRectangle(0, 0, 0, 41, 1));
        Check.argument("setRectangle(0, 0, 0, 1, 41)", m, () -> m.setRectangle(0, 0, 0, 1, 41));
        Check.argument("setRectangle(0, 40, 0, 41, 1)", m, () -> m.setRectangle(0, 40, 0, 41, 1));
        Check.argument("setRectangle(0, 0, 40, 1, 41)", m, () -> m.setRectangle(0, 0, 40, 1, 41));
    }

    private static void promise7SetLamp() {
        LampMural m = new LampMural();
        m.addLamp(100, 20);
        Check.due("setLamp(0, 0, 255)", m.setLamp(0, 0, 255), 100);
        Check.due("setLamp(0, 1, 255)", m.setLamp(0, 1, 255), 20);
        Check.due("setLamp(0, 2, 900)", m.setLamp(0, 2, 900), 0);
        Check.due("setLamp(0, 2, 0)", m.setLamp(0, 2, 0), 900);
        Check.due("undo()", m.undo(), 3);
        Check.due("greatest", m.lamp(0, 0), 255);
        Check.due("least", m.lamp(0, 1), 255);
        Check.due("wear", m.lamp(0, 2), 900);
        Check.due("limit", m.lamp(0, 4), 25);
        Check.due("floor", m.lamp(0, 5), 25);
        Check.index("setLamp(1, 0, 0)", m, () -> m.setLamp(1, 0, 0));
        Check.index("setLamp(-1, 3, 0)", m, () -> m.setLamp(-1, 3, 0));
        Check.argument("setLamp(0, 3, 0)", m, () -> m.setLamp(0, 3, 0));
        Check.argument("setLamp(0, -1, 0)", m, () -> m.setLamp(0, -1, 0));
        Check.argument("setLamp(0, 0, 256)", m, () -> m.setLamp(0, 0, 256));
        Check.argument("setLamp(0, 1, 256)", m, () -> m.setLamp(0, 1, 256));
        Check.argument("setLamp(0, 2, 901)", m, () -> m.setLamp(0, 2, 901));
        Check.argument("setLamp(0, 0, -1)", m, () -> m.setLamp(0, 0, -1));
        Check.argument("setLamp(0, 1, -1)", m, () -> m.setLamp(0, 1, -1));
        Check.argument("setLamp(0, 2, -1)", m, () -> m.setLamp(0, 2, -1));
    }

    private static void promise8SetWorks() {
        LampMural m = new LampMural();
        m.addLamp(100, 20);
        m.addLamp(100, 20);
        m.setRectangle(1, 0, 0, 2, 2);
        Check.due("setWorks(1, false)", m.setWorks(1, false), 1);
        Check.due("setWorks(1, false) again", m.setWorks(1, false), 0);
        Check.due("it does not work", m.lamp(1, 3), 0);
        Check.due("it covers nothing", m.lamp(1, 7), 0);
        Check.due("the other works", m.lamp(0, 3), 1);
        Check.due("setWorks(1, true)", m.setWorks(1, true), 0);
        Check.due("it covers again", m.lamp(1, 7), 4);
        Check.due("undo()", m.undo(), 3);
        Check.due("it does not work then", m.lamp(1, 3), 0);
        Check.index("setWorks(2, true)", m, () -> m.setWorks(2, true));
        Check.index("setWorks(-1, false)", m, () -> m.setWorks(-1, false));
    }

    private static void promise9Shift() {
        LampMural m = new LampMural();
        m.begin(4, 3);
        m.addLamp(100, 100);
        m.setRectangle(0, 0, 0, 4, 3);
        m.paint(0, 0, 3, 2, 100);
        Check.due("shift(0, 0)", m.shift(0, 0), 0);
        Check.due("shift(1, 0)", m.shift(1, 0), 3);
        Check.due("shift(0, -2)", m.shift(0, -2), 8);
        Check.due("sx", m.whole(2), 0);
        Check.due("sy", m.whole(3), -2);
        Check.due("shift(-10, 10)", m.shift(-10, 10), 12);
        Check.due("undo()", m.undo(), 3);
        Check.due("sy after undo", m.whole(3), -2);
        m.paint(0, 0, 3, 2, 0);
        Check.due("shift(-1, 1): places are too bright", m.shift(-1, 1), 6);
        Check.argument("shift(11, 0)", m, () -> m.shift(11, 0));
        Check.argument("shift(-11, 0)", m, () -> m.shift(-11, 0));
        Check.argument("shift(0, 11)", m, () -> m.shift(0, 11));
        Check.argument("shift(0, -11)", m, () -> m.shift(0, -11));
    }

    private static void promise10Burn() {
        LampMural m = new LampMural();
        Check.due("burn(1) without lamps", m.burn(1), 0);
        m.begin(2, 1);
        m.addLamp(100, 0);
        m.addLamp(200, 0);
        m.addLamp(50, 50);
        m.setRectangle(0, 0, 0, 2, 1);
        m.setRectangle(1, 5, 5, 6, 6);
        m.setRectangle(2, 0, 0, 1, 1);
        m.setLamp(2, 2, 300);
        m.setWorks(2, false);
        m.paint(0, 0, 0, 0, 60);
        m.paint(1, 0, 1, 0, 15);
        Check.due("load: 100 * 75 / 200", m.lamp(0, 9), 37);
        Check.due("burn(99): the greatest wear is the failed lamp's", m.burn(99), 300);
        Check.due("wear: 99 * 37 / 100", m.lamp(0, 2), 36);
        Check.due("wear of the lamp that covers nothing", m.lamp(1, 2), 0);
        Check.due("wear of the failed lamp", m.lamp(2, 2), 300);
        Check.due("hours", m.whole(12), 100);
        Check.due("burn(9999)", m.burn(9999), 900);
        Check.due("wear stays at 900", m.lamp(0, 2), 900);
        Check.due("hours", m.whole(12), 10099);
        Check.due("undo()", m.undo(), 3);
        Check.due("wear after undo", m.lamp(0, 2), 36);
        Check.due("hours after undo", m.whole(12), 100);
        Check.argument("burn(0)", m, () -> m.burn(0));
        Check.argument("burn(-1)", m, () -> m.burn(-1));
        Check.argument("burn(10000)", m, () -> m.burn(10000));
        allLoadsAreFoundFirst();
    }

    private static void allLoadsAreFoundFirst() {
        LampMural m = new LampMural();
        m.begin(1, 1);
        m.addLamp(100, 0);
        m.addLamp(100, 0);
        m.setRectangle(0, 0, 0, 1, 1);
        m.setRectangle(1, 0, 0, 1, 1);
        m.paint(0, 0, 0, 0, 100);
        Check.due("burn(1000)", m.burn(1000), 500);
        Check.due("wear of the lamp 0", m.lamp(0, 2), 500);
        Check.due("wear of the lamp 1", m.lamp(1, 2), 500);
        Check.due("light of the lamp 0 then", m.light(0, 0, 0), 50);
        m.burn(1);
        Check.due("brightness after more wear", m.place(0, 0, 1), 98);
    }
}
