/** Promises 11 to 17: the calls that read values of places, lamps and the whole, and so dimming. */
public final class ValuesTest {
    private ValuesTest() {
    }

    public static void main(String[] args) {
        Check.endInTime("ValuesTest");
        promise11Place();
        promise12Light();
        promise13Weight();
        promise14Lamp();
        promise15Corner();
        promise16Whole();
        promise17Wrong();
        Check.end("ValuesTest");
    }

    /** Two rows of two places: the lamp 0 lights all, the lamp 1 the column 1. */
    private static LampMural twoLamps() {
        LampMural m = new LampMural();
        m.begin(2, 2);
        m.addLamp(90, 30);
        m.addLamp(40, 20);
        m.setRectangle(0, 0, 0, 2, 2);
        m.setRectangle(1, 1, 0, 2, 2);
        m.paint(0, 0, 0, 0, 95);
        m.paint(0, 1, 0, 1, 10);
        m.paint(1, 0, 1, 0, 111);
        m.paint(1, 1, 1, 1, 45);
        return m;
    }

    private static void promise11Place() {
        LampMural m = twoLamps();
        int[][] values = {{95, 90, 2, 1, 90, 30}, {111, 111, 0, 3, 130, 50}, {10, 30, 3, 1, 90, 30},
            {45, 50, 3, 3, 130, 50}};
        for (int p = 0; p < 4; p++) {
            for (int what = 0; what < 6; what++) {
                Check.due("place(" + p % 2 + ", " + p / 2 + ", " + what + ")", m.place(p % 2, p / 2, what),
                        values[p][what]);
            }
        }
        m.setWorks(0, false);
        Check.due("state where no lamp covers", m.place(0, 0, 2), 1);
        Check.due("set of no lamps", m.place(0, 0, 3), 0);
        m.paint(0, 0, 0, 0, 0);
        Check.due("state of an uncovered place with the target 0", m.place(0, 0, 2), 0);
        Check.due("set of the other lamp", m.place(1, 1, 3), 2);
        Check.index("place(2, 0, 0)", m, () -> m.place(2, 0, 0));
        Check.index("place(0, 2, 0)", m, () -> m.place(0, 2, 0));
        Check.index("place(-1, 0, 9)", m, () -> m.place(-1, 0, 9));
        Check.index("place(0, -1, 0)", m, () -> m.place(0, -1, 0));
        Check.argument("place(0, 0, 6)", m, () -> m.place(0, 0, 6));
        Check.argument("place(0, 0, -1)", m, () -> m.place(0, 0, -1));
    }

    private static void promise12Light() {
        LampMural m = twoLamps();
        Check.due("light(0, 0, 0): the limit", m.light(0, 0, 0), 90);
        Check.due("light(0, 0, 1): the floor", m.light(0, 0, 1), 30);
        Check.due("light(1, 0, 0): not covered", m.light(1, 0, 0), LampMural.NONE);
        Check.due("light(0, 1, 0): more for the lamp 0", m.light(0, 1, 0), 71);
        Check.due("light(1, 1, 0): the limit", m.light(1, 1, 0), 40);
        Check.due("light(0, 1, 1)", m.light(0, 1, 1), 30);
        Check.due("light(1, 1, 1)", m.light(1, 1, 1), 20);
        Check.index("light(2, 0, 0)", m, () -> m.light(2, 0, 0));
        Check.index("light(-1, 0, 0)", m, () -> m.light(-1, 0, 0));
        Check.index("light(0, 2, 0)", m, () -> m.light(0, 2, 0));
        Check.index("light(0, 0, 2)", m, () -> m.light(0, 0, 2));
        Check.index("light(0, -1, 0)", m, () -> m.light(0, -1, 0));
        nothingAboveTheLimit();
        lightsByWeight();
        missingLightGoesInOrder();
        lessLightGoesInOrder();
    }

    private static void nothingAboveTheLimit() {
        LampMural m = new LampMural();
        m.addLamp(50, 50);
        m.setRectangle(0, 0, 0, 1, 1);
        for (int target = 48; target < 53; target++) {
            m.paint(0, 0, 0, 0, target);
            Check.due("light for the target " + target, m.light(0, 0, 0), 50);
        }
    }

    private static void lightsByWeight() {
        LampMural m = new LampMural();
        m.begin(1, 1);
        m.addLamp(255, 0);
        m.addLamp(255, 0);
        m.addLamp(255, 0);
        m.setRectangle(0, 0, 0, 1, 1);
        m.setRectangle(1, -2, -2, 3, 3);
        m.setRectangle(2, -2, -2, 3, 3);
        m.paint(0, 0, 0, 0, 100);
        Check.due("weight 2 of 14", m.light(0, 0, 0), 14);
        Check.due("weight 6 of 14, and the missing light", m.light(1, 0, 0), 44);
        Check.due("weight 6 of 14", m.light(2, 0, 0), 42);
        m.setRectangle(0, -2, -2, 3, 3);
        m.paint(0, 0, 0, 0, 101);
        Check.due("the missing light goes to the lowest of the heaviest", m.light(0, 0, 0), 35);
        Check.due("the next has its share alone", m.light(1, 0, 0), 33);
    }

    private static void missingLightGoesInOrder() {
        LampMural m = new LampMural();
        m.begin(1, 1);
        for (int n = 0; n < 4; n++) {
            m.addLamp(n == 2 ? 10 : 60, 0);
            m.setRectangle(n, 0, 0, 1, 1);
        }
        m.paint(0, 0, 0, 0, 200);
        int[] lights = {60, 60, 10, 60};
        m.setLamp(3, 0, 70);
        for (int n = 0; n < 3; n++) {
            Check.due("light of the lamp " + n, m.light(n, 0, 0), lights[n]);
        }
        Check.due("light of the lamp 3", m.light(3, 0, 0), 70);
        m.paint(0, 0, 0, 0, 160);
        Check.due("first the lamp 0 up to its limit", m.light(0, 0, 0), 60);
        Check.due("then the lamp 1", m.light(1, 0, 0), 50);
        Check.due("the lamp 3 keeps its share", m.light(3, 0, 0), 40);
    }

    private static void lessLightGoesInOrder() {
        LampMural m = new LampMural();
        m.begin(1, 1);
        for (int n = 0; n < 3; n++) {
            m.addLamp(200, n == 2 ? 80 : 10);
            m.setRectangle(n, 0, 0, 1, 1);
        }
        m.paint(0, 0, 0, 0, 120);
        Check.due("the lamp 0 gives less down to its floor", m.light(0, 0, 0), 10);
        Check.due("the lamp 1 gives less", m.light(1, 0, 0), 30);
        Check.due("the lamp 2 has its floor", m.light(2, 0, 0), 80);
        Check.due("brightness", m.place(0, 0, 1), 120);
    }

    private static void promise13Weight() {
        LampMural m = new LampMural();
        m.addLamp(100, 0);
        m.setRectangle(0, 0, 0, 4, 4);
        Check.due("weight(0, 0, 0)", m.weight(0, 0, 0), 2);
        Check.due("weight(0, 1, 2)", m.weight(0, 1, 2), 4);
        Check.due("weight(0, 4, 0): not covered", m.weight(0, 4, 0), LampMural.NONE);
        m.shift(1, 1);
        Check.due("weight(0, 0, 0) of a shifted wall", m.weight(0, 0, 0), 4);
        m.setCorner(0, 3, 0, 0);
        Check.due("weight of a triangle with a double corner", m.weight(0, 0, 0), 1);
        Check.due("weight in it", m.weight(0, 2, 0), 2);
        Check.due("a point on an edge is covered", m.lamp(0, 7), 6);
        m.shift(0, 0);
        m.setCorner(0, 0, 4, 0);
        m.setCorner(0, 1, 0, 4);
        m.setCorner(0, 2, 0, 0);
        Check.due("weight next to the first edge", m.weight(0, 1, 2), 1);
        Check.due("weight between the edges", m.weight(0, 1, 1), 2);
        m.setWorks(0, false);
        Check.due("weight of a failed lamp", m.weight(0, 0, 0), LampMural.NONE);
        Check.index("weight(1, 0, 0)", m, () -> m.weight(1, 0, 0));
        Check.index("weight(-1, 0, 0)", m, () -> m.weight(-1, 0, 0));
        Check.index("weight(0, 12, 0)", m, () -> m.weight(0, 12, 0));
        Check.index("weight(0, 0, 8)", m, () -> m.weight(0, 0, 8));
        Check.index("weight(0, 0, -1)", m, () -> m.weight(0, 0, -1));
    }

    private static void promise14Lamp() {
        LampMural m = twoLamps();
        int[][] values = {{90, 30, 0, 1, 90, 30, 1, 4, 221, 61, 90, 2}, {40, 20, 0, 1, 40, 20, 1, 2, 60, 75, 40, 0}};
        for (int n = 0; n < 2; n++) {
            for (int what = 0; what < 12; what++) {
                Check.due("lamp(" + n + ", " + what + ")", m.lamp(n, what), values[n][what]);
            }
        }
        m.setLamp(0, 2, 1);
        Check.due("limit of a little wear: 90 * 999 / 1000", m.lamp(0, 4), 89);
        m.setLamp(0, 2, 333);
        Check.due("limit of a worn lamp: 90 * 667 / 1000", m.lamp(0, 4), 60);
        m.setLamp(0, 1, 61);
        Check.due("floor of a worn lamp", m.lamp(0, 5), 60);
        m.setLamp(0, 0, 0);
        Check.due("load with a limit of 0", m.lamp(0, 9), 0);
        m.setWorks(0, false);
        int[] failed = {0, 61, 333, 0, 0, 0, 1, 0, 0, 0, 0, 0};
        for (int what = 0; what < 12; what++) {
            Check.due("lamp(0, " + what + ") failed", m.lamp(0, what), failed[what]);
        }
        Check.due("the other covers alone then", m.lamp(1, 11), 2);
        m.setRectangle(1, 0, 0, 1, 1);
        m.setLamp(1, 0, 1);
        Check.due("load at the limit 1 of one place", m.lamp(1, 9), 100);
        Check.index("lamp(2, 0)", m, () -> m.lamp(2, 0));
        Check.index("lamp(-1, 12)", m, () -> m.lamp(-1, 12));
        Check.argument("lamp(0, 12)", m, () -> m.lamp(0, 12));
        Check.argument("lamp(0, -1)", m, () -> m.lamp(0, -1));
    }

    private static void promise15Corner() {
        LampMural m = twoLamps();
        m.setCorner(1, 3, -7, 9);
        Check.due("corner(1, 3, 0)", m.corner(1, 3, 0), -7);
        Check.due("corner(1, 3, 1)", m.corner(1, 3, 1), 9);
        Check.due("corner(1, 2, 0)", m.corner(1, 2, 0), 2);
        Check.due("corner(0, 0, 1)", m.corner(0, 0, 1), 0);
        Check.index("corner(2, 0, 0)", m, () -> m.corner(2, 0, 0));
        Check.index("corner(-1, 0, 2)", m, () -> m.corner(-1, 0, 2));
        Check.index("corner(0, 4, 0)", m, () -> m.corner(0, 4, 0));
        Check.index("corner(0, -1, 2)", m, () -> m.corner(0, -1, 2));
        Check.argument("corner(0, 0, 2)", m, () -> m.corner(0, 0, 2));
        Check.argument("corner(0, 0, -1)", m, () -> m.corner(0, 0, -1));
    }

    private static void promise16Whole() {
        LampMural m = twoLamps();
        m.type('a');
        int[] values = {2, 2, 0, 0, 2, 2, 1, 0, 1, 2, 261, 281, 0, 2, 1};
        for (int what = 0; what < values.length; what++) {
            Check.due("whole(" + what + ")", m.whole(what), values[what]);
        }
        m.shift(1, -1);
        m.setWorks(1, false);
        m.burn(7);
        int[] shifted = {2, 2, 1, -1, 2, 1, 0, 3, 0, 1, 261, 30, 7, 0, 1};
        for (int what = 0; what < shifted.length; what++) {
            Check.due("whole(" + what + ") later", m.whole(what), shifted[what]);
        }
        LampMural first = new LampMural();
        first.addLamp(0, 0);
        first.addLamp(0, 0);
        first.addLamp(0, 0);
        first.setRectangle(0, 0, 0, 1, 1);
        first.setRectangle(1, 0, 0, 1, 1);
        Check.due("two lamps at the first place", first.whole(13), 1);
        first.setRectangle(2, 0, 0, 2, 1);
        Check.due("three lamps at the first place", first.whole(13), 1);
        Check.argument("whole(15)", m, () -> m.whole(15));
        Check.argument("whole(-1)", m, () -> m.whole(-1));
    }

    private static void promise17Wrong() {
        LampMural m = new LampMural();
        m.paint(11, 0, 11, 0, 1);
        m.paint(2, 3, 3, 3, 1);
        m.paint(0, 7, 0, 7, 1);
        int[] places = {11, 302, 303, 700, LampMural.NONE, LampMural.NONE};
        for (int i = 0; i < places.length; i++) {
            Check.due("wrong(" + i + ")", m.wrong(i), places[i]);
        }
        Check.due("wrong(MAX)", m.wrong(Integer.MAX_VALUE), LampMural.NONE);
        Check.argument("wrong(-1)", m, () -> m.wrong(-1));
        Check.argument("wrong(MIN)", m, () -> m.wrong(Integer.MIN_VALUE));
    }
}
