/** The sentences of "What it is" and of the terms THE WALL and LAMPS, each with its edges. */
public final class WallAndLampTermsTest {
    private WallAndLampTermsTest() {
    }

    public static void main(String[] args) {
        Sentences.run(WallAndLampTermsTest.class);
    }

    /** One lamp with the corners x0 y0 x1 y1 x2 y2 x3 y3. */
    private static LampMural quadrangle(int... corners) {
        LampMural m = new LampMural();
        m.addLamp(255, 0);
        for (int i = 0; i < 4; i++) {
            m.setCorner(0, i, corners[2 * i], corners[2 * i + 1]);
        }
        return m;
    }

    /** The same corners, beginning with another one. */
    private static int[] turned(int by, int... corners) {
        int[] turned = new int[8];
        for (int k = 0; k < 8; k++) {
            turned[k] = corners[(k + 2 * by) % 8];
        }
        return turned;
    }

    private static void good(String what, int due, int... corners) {
        for (int by = 0; by < 4; by++) {
            Check.due(what + " turned by " + by, quadrangle(turned(by, corners)).lamp(0, 6), due);
        }
    }

    @Sentence(in = "What it is", says = "An object is used for at most 512 calls after it has been made")
    static void whatItIs_all512CallsAreAnswered() {
        LampMural m = new LampMural();
        for (int i = 0; i < 15; i++) {
            for (char c : "burn 9999;".toCharArray()) {
                m.type(c);
            }
        }
        for (int i = 151; i <= 510; i++) {
            Check.due("runCommands() as the call " + i, m.runCommands(), 15);
        }
        Check.due("whole(12) as the call 511", m.whole(12), 360 * 15 * 9999);
        Check.due("undo() as the call 512", m.undo(), 3);
    }

    @Sentence(in = "Terms", says = "a / b cuts towards 0.")
    static void terms_quotientsAreCut() {
        LampMural m = new LampMural();
        m.addLamp(99, 0);
        m.setLamp(0, 2, 10);
        Check.due("the limit 99 * 990 / 1000 = 98.01", m.lamp(0, 4), 98);
        m.setLamp(0, 2, 1);
        Check.due("the limit 99 * 999 / 1000 = 98.9", m.lamp(0, 4), 98);
    }

    @Sentence(in = "Terms", says = "cross(u, v) of two vectors (ux, uy) and (vx, vy) is ux * vy - uy * vx.")
    static void terms_crossHasASign() {
        Check.due("first along x, then along y", quadrangle(0, 0, 3, 0, 3, 2, 0, 2).lamp(0, 6), 1);
        Check.due("first along y, then along x", quadrangle(0, 0, 0, 2, 3, 2, 3, 0).lamp(0, 6), 0);
    }

    @Sentence(in = "Terms, THE WALL", says = "The wall has columns (1 to 24; 12 at first)")
    static void wall_columns1To24And12AtFirst() {
        LampMural m = new LampMural();
        Check.due("columns at first", m.whole(0), 12);
        Check.argumentBeyond("columns", m, 1, 24, c -> m.begin(c, 8));
        for (int columns = 1; columns <= 24; columns++) {
            m.begin(columns, 8);
            Check.due("columns", m.whole(0), columns);
            Check.due("places", m.whole(6), 8 * columns);
        }
    }

    @Sentence(in = "Terms, THE WALL", says = "rows (1 to 16; 8 at first)")
    static void wall_rows1To16And8AtFirst() {
        LampMural m = new LampMural();
        Check.due("rows at first", m.whole(1), 8);
        Check.argumentBeyond("rows", m, 1, 16, r -> m.begin(12, r));
        for (int rows = 1; rows <= 16; rows++) {
            m.begin(12, rows);
            Check.due("rows", m.whole(1), rows);
            Check.due("places", m.whole(6), 12 * rows);
        }
    }

    @Sentence(in = "Terms, THE WALL", says = "numbered from 0; a place is a column x and a row y.")
    static void wall_placesNumberedFrom0() {
        LampMural m = new LampMural();
        m.begin(24, 16);
        m.paint(0, 0, 0, 0, 1);
        m.paint(23, 0, 23, 0, 2);
        m.paint(0, 15, 0, 15, 3);
        m.paint(23, 15, 23, 15, 4);
        Check.due("target of (0, 0)", m.place(0, 0, 0), 1);
        Check.due("target of (23, 0)", m.place(23, 0, 0), 2);
        Check.due("target of (0, 15)", m.place(0, 15, 0), 3);
        Check.due("target of (23, 15)", m.place(23, 15, 0), 4);
        Check.indexBeyond("column", m, 0, 23, x -> m.place(x, 0, 0));
        Check.indexBeyond("row", m, 0, 15, y -> m.place(0, y, 0));
        m.begin(1, 1);
        Check.due("target of the only place", m.place(0, 0, 0), 0);
        Check.indexBeyond("column of the only place", m, 0, 0, x -> m.place(x, 0, 0));
        Check.indexBeyond("row of the only place", m, 0, 0, y -> m.place(0, y, 0));
    }

    @Sentence(in = "Terms, THE WALL", says = "Each place has a target, 0 to 255 (0 at first): how bright it has to be.")
    static void wall_targets0To255And0AtFirst() {
        LampMural m = new LampMural();
        for (int p = 0; p < 96; p++) {
            Check.due("target of the place " + p, m.place(p % 12, p / 12, 0), 0);
        }
        Check.due("a target of 0 to 0", m.paint(0, 0, 0, 0, 0), 0);
        m.paint(0, 0, 0, 0, 255);
        Check.due("a target of 255", m.place(0, 0, 0), 255);
        m.paint(0, 0, 0, 0, 0);
        Check.due("a target of 0 again", m.place(0, 0, 0), 0);
        Check.argumentBeyond("target", m, 0, 255, t -> m.paint(0, 0, 0, 0, t));
    }

    @Sentence(in = "Terms, THE WALL", says = "The wall has a shift by sx and sy (-10 to 10 each; 0 at first)")
    static void wall_shiftMinus10To10And0AtFirst() {
        LampMural m = new LampMural();
        Check.due("sx at first", m.whole(2), 0);
        Check.due("sy at first", m.whole(3), 0);
        Check.argumentBeyond("sx", m, -10, 10, s -> m.shift(s, 0));
        Check.argumentBeyond("sy", m, -10, 10, s -> m.shift(0, s));
        for (int s = -10; s <= 10; s++) {
            m.shift(s, -s);
            Check.due("sx", m.whole(2), s);
            Check.due("sy", m.whole(3), -s);
        }
    }

    @Sentence(in = "Terms, THE WALL", says = "the point of a place is (2 * (x + sx) + 1, 2 * (y + sy) + 1).")
    static void wall_pointOfAPlaceAtTheEndsOfTheShift() {
        LampMural m = new LampMural();
        m.begin(24, 16);
        m.addLamp(9, 0);
        Check.due("a lamp on (0, 0)", m.setRectangle(0, 0, 0, 1, 1), 1);
        Check.due("lamps at (0, 0)", m.place(0, 0, 3), 1);
        m.shift(-10, -10);
        Check.due("a lamp on (-10, -10)", m.setRectangle(0, -10, -10, -9, -9), 1);
        Check.due("lamps at (0, 0) shifted by -10", m.place(0, 0, 3), 1);
        m.shift(10, 10);
        Check.due("a lamp on (33, 25)", m.setRectangle(0, 33, 25, 34, 26), 1);
        Check.due("lamps at (23, 15) shifted by 10", m.place(23, 15, 3), 1);
        m.shift(-1, 0);
        Check.due("a lamp on (-1, 0)", m.setRectangle(0, -1, 0, 0, 1), 1);
        Check.due("lamps at (0, 0) shifted by -1 to the side", m.place(0, 0, 3), 1);
        m.shift(0, -1);
        Check.due("a lamp on (0, -1)", m.setRectangle(0, 0, -1, 1, 0), 1);
        Check.due("lamps at (0, 0) shifted by -1 up", m.place(0, 0, 3), 1);
    }

    @Sentence(in = "Terms, LAMPS", says = "There are at most 8 lamps, numbered from 0.")
    static void lamps_atMost8NumberedFrom0() {
        LampMural m = new LampMural();
        Check.index("lamp(0, 0) without lamps", m, () -> m.lamp(0, 0));
        for (int n = 0; n < 8; n++) {
            Check.due("addLamp", m.addLamp(10 + n, 0), n);
            Check.due("lamps", m.whole(4), n + 1);
            Check.due("greatest light of the latest", m.lamp(n, 0), 10 + n);
            Check.indexBeyond("lamp", m, 0, n, k -> m.lamp(k, 0));
        }
        Check.state("the lamp 8", m, () -> m.addLamp(0, 0));
        Check.due("greatest light of the lamp 0", m.lamp(0, 0), 10);
    }

    @Sentence(in = "Terms, LAMPS", says = "A lamp has four corners, 0 to 3, each with an x and a y (-20 to 40; all 0 at first)")
    static void lamps_fourCornersMinus20To40And0AtFirst() {
        LampMural m = new LampMural();
        m.addLamp(1, 1);
        for (int i = 0; i < 4; i++) {
            int corner = i;
            Check.due("x of the corner " + i, m.corner(0, i, 0), 0);
            Check.due("y of the corner " + i, m.corner(0, i, 1), 0);
            Check.argumentBeyond("x", m, -20, 40, x -> m.setCorner(0, corner, x, 0));
            Check.argumentBeyond("y", m, -20, 40, y -> m.setCorner(0, corner, 0, y));
        }
        for (int i = 0; i < 4; i++) {
            m.setCorner(0, i, -20, 40);
            Check.due("least x of the corner " + i, m.corner(0, i, 0), -20);
            Check.due("greatest y of the corner " + i, m.corner(0, i, 1), 40);
            m.setCorner(0, i, 40, -20);
            Check.due("greatest x of the corner " + i, m.corner(0, i, 0), 40);
            Check.due("least y of the corner " + i, m.corner(0, i, 1), -20);
        }
        Check.indexBeyond("corner to set", m, 0, 3, i -> m.setCorner(0, i, 0, 0));
        Check.indexBeyond("corner", m, 0, 3, i -> m.corner(0, i, 0));
    }

    @Sentence(in = "Terms, LAMPS", says = "as points they are (2 * x, 2 * y).")
    static void lamps_cornersLieBetweenPlaces() {
        LampMural m = new LampMural();
        m.addLamp(1, 1);
        Check.due("a rectangle of one place", m.setRectangle(0, 3, 2, 4, 3), 1);
        Check.due("lamps in it", m.place(3, 2, 3), 1);
        Check.due("lamps left of it", m.place(2, 2, 3), 0);
        Check.due("lamps right of it", m.place(4, 2, 3), 0);
        Check.due("lamps above it", m.place(3, 1, 3), 0);
        Check.due("lamps below it", m.place(3, 3, 3), 0);
        Check.due("weight in it: 1 + 2 * 1 / 2", m.weight(0, 3, 2), 2);
    }

    @Sentence(in = "Terms, LAMPS", says = "It has a greatest light (0 to 255)")
    static void lamps_greatestLight0To255() {
        LampMural m = new LampMural();
        m.addLamp(0, 0);
        Check.due("the greatest light 0", m.lamp(0, 0), 0);
        m.addLamp(255, 0);
        Check.due("the greatest light 255", m.lamp(1, 0), 255);
        m.setLamp(0, 0, 255);
        Check.due("the greatest light set to 255", m.lamp(0, 0), 255);
        m.setLamp(1, 0, 0);
        Check.due("the greatest light set to 0", m.lamp(1, 0), 0);
        Check.argumentBeyond("greatest light of a new lamp", m, 0, 255, v -> m.addLamp(v, 0));
        Check.argumentBeyond("greatest light to set", m, 0, 255, v -> m.setLamp(0, 0, v));
    }

    @Sentence(in = "Terms, LAMPS", says = "a least light (0 to 255)")
    static void lamps_leastLight0To255() {
        LampMural m = new LampMural();
        m.addLamp(0, 255);
        Check.due("the least light 255, above the greatest", m.lamp(0, 1), 255);
        m.addLamp(0, 0);
        Check.due("the least light 0", m.lamp(1, 1), 0);
        m.setLamp(0, 1, 0);
        Check.due("the least light set to 0", m.lamp(0, 1), 0);
        m.setLamp(1, 1, 255);
        Check.due("the least light set to 255", m.lamp(1, 1), 255);
        Check.argumentBeyond("least light of a new lamp", m, 0, 255, v -> m.addLamp(0, v));
        Check.argumentBeyond("least light to set", m, 0, 255, v -> m.setLamp(0, 1, v));
    }

    @Sentence(in = "Terms, LAMPS", says = "wear (0 to 900 thousandths, 0 at first)")
    static void lamps_wear0To900And0AtFirst() {
        LampMural m = new LampMural();
        m.addLamp(100, 0);
        Check.due("wear at first", m.lamp(0, 2), 0);
        m.setLamp(0, 2, 900);
        Check.due("wear of 900", m.lamp(0, 2), 900);
        m.setLamp(0, 2, 0);
        Check.due("wear of 0", m.lamp(0, 2), 0);
        Check.argumentBeyond("wear", m, 0, 900, v -> m.setLamp(0, 2, v));
    }

    @Sentence(in = "Terms, LAMPS", says = "works or has failed (it works at first)")
    static void lamps_worksAtFirst() {
        LampMural m = new LampMural();
        m.addLamp(100, 0);
        Check.due("it works at first", m.lamp(0, 3), 1);
        m.setWorks(0, false);
        m.addLamp(100, 0);
        Check.due("the next works at first too", m.lamp(1, 3), 1);
        Check.due("the failed one still does not", m.lamp(0, 3), 0);
    }

    @Sentence(in = "Terms, LAMPS", says = "Its limit is its greatest light * (1000 - wear) / 1000")
    static void lamps_limitFromNoWearToTheMost() {
        LampMural m = new LampMural();
        m.addLamp(255, 0);
        int[][] wearAndLimit = {{0, 255}, {1, 254}, {3, 254}, {4, 253}, {500, 127}, {899, 25}, {900, 25}};
        for (int[] pair : wearAndLimit) {
            m.setLamp(0, 2, pair[0]);
            Check.due("limit of 255 with a wear of " + pair[0], m.lamp(0, 4), pair[1]);
        }
        m.setLamp(0, 0, 9);
        Check.due("limit of 9 with a wear of 900", m.lamp(0, 4), 0);
        m.setLamp(0, 0, 10);
        Check.due("limit of 10 with a wear of 900", m.lamp(0, 4), 1);
        m.setLamp(0, 0, 0);
        m.setLamp(0, 2, 0);
        Check.due("limit of 0", m.lamp(0, 4), 0);
    }

    @Sentence(in = "Terms, LAMPS", says = "its floor is the smaller one of its least light and its limit.")
    static void lamps_floorIsTheSmallerOne() {
        LampMural m = new LampMural();
        m.addLamp(100, 99);
        Check.due("least light 99, limit 100", m.lamp(0, 5), 99);
        m.setLamp(0, 1, 100);
        Check.due("least light 100, limit 100", m.lamp(0, 5), 100);
        m.setLamp(0, 1, 101);
        Check.due("least light 101, limit 100", m.lamp(0, 5), 100);
        m.setLamp(0, 2, 900);
        Check.due("least light 101, limit 10", m.lamp(0, 5), 10);
        m.setLamp(0, 1, 0);
        Check.due("least light 0, limit 10", m.lamp(0, 5), 0);
    }

    @Sentence(in = "Terms, LAMPS", says = "cross(j - i, k - j) is not negative")
    static void lamps_goodWithCrossesOf0AndNotBelow() {
        good("a cross of 0, straight on", 1, 0, 0, 2, 0, 4, 0, 0, 4);
        good("a cross of 1", 1, 0, 0, 1, 0, 2, 1, 0, 4);
        good("a cross of -1, the least dent", 0, 0, 0, 2, 1, 3, 1, 0, 5);
        good("a deep dent", 0, 0, 0, 4, 0, 1, 1, 0, 4);
        good("a cross of 0, a double corner", 1, 0, 0, 4, 0, 4, 0, 0, 4);
        good("crossed sides", 0, 0, 0, 4, 0, 0, 4, 4, 4);
        good("all crosses below 0", 0, 0, 0, 0, 4, 4, 4, 4, 0);
        good("the largest", 1, -20, -20, 40, -20, 40, 40, -20, 40);
    }

    @Sentence(in = "Terms, LAMPS", says = "the one behind that k (3 is followed by 0)")
    static void lamps_corner3IsFollowedByCorner0() {
        int[] dart = {0, 0, 4, 0, 1, 1, 0, 4};
        for (int by = 0; by < 4; by++) {
            LampMural m = quadrangle(turned(by, dart));
            int dent = (2 - by + 4) % 4;
            Check.due("a dent at the corner " + dent, m.lamp(0, 6), 0);
            Check.due("mended at the corner " + dent, m.setCorner(0, dent, 4, 4), 1);
        }
        LampMural line = quadrangle(1, 0, 2, 1, 3, 2, 4, 3);
        Check.due("a line: the way from the corner 3 to 0 makes the sum 0", line.lamp(0, 6), 0);
    }

    @Sentence(in = "Terms, LAMPS", says = "the sum of cross(i, j) over all corners is above 0.")
    static void lamps_goodWithASumAbove0Alone() {
        good("a sum of 0 at one point", 0, 0, 0, 0, 0, 0, 0, 0, 0);
        good("a sum of 0 at one point away from (0, 0)", 0, 5, 7, 5, 7, 5, 7, 5, 7);
        good("a sum of 0 on a line", 0, 0, 0, 3, 0, 3, 0, 0, 0);
        good("a sum of 0 on a line away from (0, 0)", 0, 2, 3, 4, 4, 6, 5, 4, 4);
        good("a sum of 1", 1, 0, 0, 1, 0, 1, 0, 0, 1);
        good("a sum of 1 at the edge of the range", 1, 39, 39, 40, 39, 40, 39, 39, 40);
        good("a sum of 1 at the other edge", 1, -20, -20, -19, -20, -19, -20, -20, -19);
        good("a sum of -1", 0, 0, 1, 1, 0, 1, 0, 0, 0);
    }

    @Sentence(in = "Terms, LAMPS", says = "A lamp covers a place if it works")
    static void lamps_failedOneCoversNothing() {
        LampMural m = quadrangle(0, 0, 12, 0, 12, 8, 0, 8);
        Check.due("places of one that works", m.lamp(0, 7), 96);
        m.setWorks(0, false);
        Check.due("places of one that has failed", m.lamp(0, 7), 0);
        Check.due("lamps at (0, 0)", m.place(0, 0, 3), 0);
    }

    @Sentence(in = "Terms, LAMPS", says = "A lamp covers a place if it works, its quadrangle is good")
    static void lamps_oneThatIsNotGoodCoversNothing() {
        Check.due("places of one point, where all heights are 0", quadrangle(0, 0, 0, 0, 0, 0, 0, 0).lamp(0, 7), 0);
        Check.due("places of a line through points", quadrangle(0, 0, 5, 5, 5, 5, 0, 0).lamp(0, 7), 0);
        Check.due("places of a dart", quadrangle(0, 0, 8, 0, 2, 2, 0, 8).lamp(0, 7), 0);
        LampMural m = quadrangle(0, 0, 2, 0, 2, 2, 0, 2);
        Check.due("places of a good one", m.lamp(0, 7), 4);
        m.setCorner(0, 2, 0, 0);
        Check.due("places when it is not good any more", m.lamp(0, 7), 0);
    }

    @Sentence(in = "Terms, LAMPS", says = "the height cross(j - i, point - i) is not negative.")
    static void lamps_coversAtAHeightOf0AndNotBelow() {
        for (int by = 0; by < 4; by++) {
            LampMural corner = quadrangle(turned(by, 0, 0, 3, 0, 0, 3, 0, 0));
            Check.due("places of a triangle with a height of 0, turned by " + by, corner.lamp(0, 7), 6);
            Check.due("lamps at (1, 1), a height of 0", corner.place(1, 1, 3), 1);
            Check.due("lamps at (2, 1), below 0", corner.place(2, 1, 3), 0);
            LampMural place = quadrangle(turned(by, 1, 1, 2, 1, 2, 2, 1, 2));
            Check.due("places of a square with heights of -2 round it, turned by " + by, place.lamp(0, 7), 1);
            Check.due("lamps in it", place.place(1, 1, 3), 1);
            LampMural thin = quadrangle(turned(by, 0, 0, 1, 1, 4, 4, 0, 0));
            Check.due("places of a line, which is not good", thin.lamp(0, 7), 0);
            LampMural slope = quadrangle(turned(by, 0, 0, 3, 3, 0, 6, 0, 3));
            Check.due("lamps at (1, 1) on a side", slope.place(1, 1, 3), 1);
            Check.due("lamps at (1, 0) over it", slope.place(1, 0, 3), 0);
            Check.due("lamps at (2, 3) on another side", slope.place(2, 3, 3), 1);
            Check.due("lamps at (2, 4) below it", slope.place(2, 4, 3), 0);
        }
    }

    @Sentence(in = "Terms, LAMPS", says = "is 1 + the least of height / (|jx - ix| + |jy - iy|) over all corners i")
    static void lamps_weightIsTheLeastOverAllSides() {
        for (int by = 0; by < 4; by++) {
            LampMural m = quadrangle(turned(by, 0, 0, 12, 0, 12, 8, 0, 8));
            Check.due("weight at (5, 0), nearest to the first side", m.weight(0, 5, 0), 2);
            Check.due("weight at (11, 4), nearest to the next", m.weight(0, 11, 4), 2);
            Check.due("weight at (5, 7), nearest to the next", m.weight(0, 5, 7), 2);
            Check.due("weight at (0, 4), nearest to the last", m.weight(0, 0, 4), 2);
            Check.due("weight in the middle", m.weight(0, 5, 3), 8);
            LampMural edge = quadrangle(turned(by, 0, 0, 4, 0, 4, 1, 0, 5));
            Check.due("a height of 0", edge.weight(0, 2, 2), 1);
            Check.due("a height of 16 by 16, cut from 2 / 1", edge.weight(0, 1, 1), 3);
        }
        LampMural largest = quadrangle(-20, -20, 40, -20, 40, 40, -20, 40);
        largest.shift(0, 4);
        Check.due("the greatest weight", largest.weight(0, 10, 6), 60);
    }

    @Sentence(in = "Terms, LAMPS", says = "over all corners i that are not at the same point as their next one.")
    static void lamps_weightSkipsADoubleCorner() {
        for (int by = 0; by < 4; by++) {
            LampMural two = quadrangle(turned(by, 0, 0, 6, 0, 6, 0, 0, 6));
            Check.due("weight at (1, 1), turned by " + by, two.weight(0, 1, 1), 4);
            LampMural another = quadrangle(turned(by, 0, 0, 6, 0, 0, 6, 0, 6));
            Check.due("weight at (2, 2), turned by " + by, another.weight(0, 2, 2), 2);
        }
    }
}
