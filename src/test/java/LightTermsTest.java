/** The sentences of the terms DIMMING and BURNING, each with its edges. */
public final class LightTermsTest {
    private LightTermsTest() {
    }

    public static void main(String[] args) {
        Sentences.run(LightTermsTest.class);
    }

    /** A wall of one place with a target; each lamp is its greatest light, its least light and its weight, an even one. */
    private static LampMural place(int target, int[]... lamps) {
        LampMural m = new LampMural();
        m.begin(1, 1);
        m.paint(0, 0, 0, 0, target);
        for (int n = 0; n < lamps.length; n++) {
            m.addLamp(lamps[n][0], lamps[n][1]);
            int away = lamps[n][2] / 2 - 1;
            m.setRectangle(n, -away, -away, 1 + away, 1 + away);
        }
        return m;
    }

    private static void lights(String what, LampMural m, int... due) {
        int sum = 0;
        for (int n = 0; n < due.length; n++) {
            Check.due(what + ": light of the lamp " + n, m.light(n, 0, 0), due[n]);
            sum += due[n];
        }
        Check.due(what + ": brightness", m.place(0, 0, 1), sum);
    }

    private static void state(String what, LampMural m, int due) {
        Check.due(what + ": state", m.place(0, 0, 2), due);
    }

    private static int[] lamp(int greatest, int least, int weight) {
        return new int[] {greatest, least, weight};
    }

    /** A lamp that lights all of a wall of one row, with targets of its own. */
    private static LampMural row(int greatest, int least, int... targets) {
        LampMural m = new LampMural();
        m.begin(targets.length, 1);
        m.addLamp(greatest, least);
        m.setRectangle(0, 0, 0, targets.length, 1);
        for (int x = 0; x < targets.length; x++) {
            m.paint(x, 0, x, 0, targets[x]);
        }
        return m;
    }

    @Sentence(in = "Terms, DIMMING",
            says = "At each place, with the target T, the lights of the lamps that cover it are found like this.")
    static void dimming_eachPlaceByItself() {
        LampMural m = row(100, 5, 0, 255, 6, 100, 4);
        int[] lights = {5, 100, 6, 100, 5};
        for (int x = 0; x < lights.length; x++) {
            Check.due("light at (" + x + ", 0)", m.light(0, x, 0), lights[x]);
            Check.due("brightness of (" + x + ", 0)", m.place(x, 0, 1), lights[x]);
        }
        m.begin(24, 16);
        m.setRectangle(0, 0, 0, 24, 16);
        m.paint(0, 0, 0, 0, 90);
        m.paint(23, 15, 23, 15, 80);
        Check.due("light at the first of 384 places", m.light(0, 0, 0), 90);
        Check.due("light at the next", m.light(0, 1, 0), 5);
        Check.due("light at the last", m.light(0, 23, 15), 80);
        Check.due("light at the one before", m.light(0, 22, 15), 5);
    }

    @Sentence(in = "Terms, DIMMING", says = "Let W be the sum of their weights.")
    static void dimming_onlyCoveringLampsCount() {
        LampMural m = place(100, lamp(255, 0, 2), lamp(255, 0, 2), lamp(255, 0, 2));
        m.setRectangle(0, 1, 0, 2, 1);
        m.setWorks(1, false);
        Check.due("light of a lamp beside the place", m.light(0, 0, 0), LampMural.NONE);
        Check.due("light of a failed lamp", m.light(1, 0, 0), LampMural.NONE);
        Check.due("light of the only lamp that covers it", m.light(2, 0, 0), 100);
        m.setWorks(1, true);
        Check.due("light of the lamp 1, one of two", m.light(1, 0, 0), 50);
        Check.due("light of the lamp 2, one of two", m.light(2, 0, 0), 50);
    }

    @Sentence(in = "Terms, DIMMING", says = "(1) Each lamp gets T * weight / W")
    static void dimming_sharesAreCut() {
        lights("T = 255, weights 2 and 8", place(255, lamp(255, 0, 2), lamp(255, 0, 8)), 51, 204);
        lights("T = 254, 50.8 and 203.2", place(254, lamp(255, 0, 2), lamp(255, 0, 8)), 50, 204);
        lights("T = 0", place(0, lamp(255, 0, 2), lamp(255, 0, 8)), 0, 0);
        lights("T = 255, one lamp", place(255, lamp(255, 0, 2)), 255);
        lights("T = 0, one lamp", place(0, lamp(255, 0, 2)), 0);
        lights("T = 255 by the greatest weights", place(255, lamp(255, 0, 40), lamp(255, 0, 40), lamp(255, 0, 2)),
                125, 124, 6);
    }

    @Sentence(in = "Terms, DIMMING", says = "what is missing from T then is added to the lamp with the greatest weight")
    static void dimming_missingLightGoesToTheHeaviest() {
        lights("T = 7, the first is heavier", place(7, lamp(255, 0, 6), lamp(255, 0, 2)), 6, 1);
        lights("T = 7, the last is heavier", place(7, lamp(255, 0, 2), lamp(255, 0, 6)), 1, 6);
        lights("T = 1, all shares are 0", place(1, lamp(255, 0, 2), lamp(255, 0, 4), lamp(255, 0, 2)), 0, 1, 0);
        lights("T = 8, nothing is missing", place(8, lamp(255, 0, 6), lamp(255, 0, 2)), 6, 2);
    }

    @Sentence(in = "Terms, DIMMING", says = "of several that with the lowest number.")
    static void dimming_missingLightGoesToTheLowestOfSeveral() {
        lights("T = 3, two of one weight", place(3, lamp(255, 0, 2), lamp(255, 0, 2)), 2, 1);
        lights("T = 1, two of one weight", place(1, lamp(255, 0, 2), lamp(255, 0, 2)), 1, 0);
        lights("T = 100, the lamps 1 and 2", place(100, lamp(255, 0, 2), lamp(255, 0, 6), lamp(255, 0, 6)), 14, 44, 42);
        int[][] eight = new int[8][];
        for (int n = 0; n < 8; n++) {
            eight[n] = lamp(255, 0, 2);
        }
        lights("T = 255, eight lamps", place(255, eight), 38, 31, 31, 31, 31, 31, 31, 31);
    }

    @Sentence(in = "Terms, DIMMING", says = "(2) The light of each lamp that is above its limit becomes its limit")
    static void dimming_notAboveTheLimit() {
        lights("T one below the limit", place(99, lamp(100, 0, 2)), 99);
        lights("T at the limit", place(100, lamp(100, 0, 2)), 100);
        lights("T one above the limit", place(101, lamp(100, 0, 2)), 100);
        lights("a limit of 0", place(255, lamp(0, 0, 2)), 0);
        lights("one of two above its limit", place(100, lamp(30, 0, 2), lamp(255, 0, 2)), 30, 70);
        lights("both above their limits", place(255, lamp(30, 0, 2), lamp(40, 0, 2)), 30, 40);
        LampMural worn = place(100, lamp(100, 0, 2));
        worn.setLamp(0, 2, 900);
        lights("a worn lamp's limit", worn, 10);
    }

    @Sentence(in = "Terms, DIMMING", says = "one below its floor becomes its floor.")
    static void dimming_notBelowTheFloor() {
        lights("T one above the floor", place(51, lamp(255, 50, 2)), 51);
        lights("T at the floor", place(50, lamp(255, 50, 2)), 50);
        lights("T one below the floor", place(49, lamp(255, 50, 2)), 50);
        lights("T = 0 and the floor 255", place(0, lamp(255, 255, 2)), 255);
        lights("one of two below its floor", place(100, lamp(255, 80, 2), lamp(255, 0, 2)), 80, 20);
        lights("one above, one below", place(100, lamp(30, 0, 2), lamp(255, 90, 2)), 10, 90);
        lights("the floor is not above the limit", place(10, lamp(40, 200, 2)), 40);
        LampMural worn = place(5, lamp(100, 60, 2));
        worn.setLamp(0, 2, 900);
        lights("a worn lamp's floor", worn, 10);
    }

    @Sentence(in = "Terms, DIMMING", says = "(3) Let d be T minus the sum of the lights.")
    static void dimming_nothingMoreOrLessIfDIs0() {
        lights("d is 0", place(100, lamp(255, 0, 2), lamp(255, 0, 2)), 50, 50);
        lights("d is 0 at limits", place(100, lamp(50, 0, 2), lamp(50, 0, 2)), 50, 50);
        lights("d is 0 at floors", place(100, lamp(255, 50, 2), lamp(255, 50, 2)), 50, 50);
        lights("d is 0 since one has as much less as the other has more", place(100, lamp(40, 0, 2), lamp(255, 60, 2)), 40, 60);
    }

    @Sentence(in = "Terms, DIMMING", says = "If d is above 0, then by ascending numbers each lamp gets more")
    static void dimming_moreByAscendingNumbers() {
        int[][] lamps = {lamp(60, 0, 2), lamp(60, 0, 2), lamp(10, 0, 2), lamp(60, 0, 2)};
        lights("d is 30: the lamp 0 first, then the lamp 1", place(160, lamps), 60, 50, 10, 40);
        lights("d is 1", place(44, lamp(255, 0, 2), lamp(255, 0, 2), lamp(10, 0, 2), lamp(255, 0, 2)), 12, 11, 10, 11);
    }

    @Sentence(in = "Terms, DIMMING", says = "as much as is still missing, but at most up to its limit.")
    static void dimming_moreUpToTheLimitAlone() {
        int[][] lamps = {lamp(10, 0, 2), lamp(60, 0, 2), lamp(60, 0, 2)};
        lights("the last gets less than it could", place(129, lamps), 10, 60, 59);
        lights("the last gets all that it can", place(130, lamps), 10, 60, 60);
        state("all that they can is enough", place(130, lamps), 0);
        lights("one is missing", place(131, lamps), 10, 60, 60);
        state("one is missing", place(131, lamps), 2);
        lights("much is missing", place(255, lamps), 10, 60, 60);
    }

    @Sentence(in = "Terms, DIMMING", says = "If d is below 0, then by ascending numbers each lamp gets less")
    static void dimming_lessByAscendingNumbers() {
        int[][] lamps = {lamp(200, 10, 2), lamp(200, 10, 2), lamp(200, 80, 2)};
        lights("d is -40: the lamp 0 first, then the lamp 1", place(120, lamps), 10, 30, 80);
        lights("d is -1", place(30, lamp(200, 0, 2), lamp(200, 0, 2), lamp(200, 11, 2)), 9, 10, 11);
    }

    @Sentence(in = "Terms, DIMMING", says = "as much as is still too much, but at least its floor.")
    static void dimming_lessDownToTheFloorAlone() {
        int[][] lamps = {lamp(255, 80, 2), lamp(255, 10, 2), lamp(255, 10, 2)};
        lights("the last gives less than it could", place(101, lamps), 80, 10, 11);
        lights("the last gives all that it can", place(100, lamps), 80, 10, 10);
        state("all that they can is enough", place(100, lamps), 0);
        lights("one is too much", place(99, lamps), 80, 10, 10);
        state("one is too much", place(99, lamps), 3);
        lights("much is too much", place(0, lamps), 80, 10, 10);
    }

    @Sentence(in = "Terms, DIMMING", says = "The brightness of a place is the sum of the lights at it.")
    static void dimming_brightnessFromNoLampToEight() {
        Check.due("brightness without lamps", place(255).place(0, 0, 1), 0);
        int[][] eight = new int[8][];
        for (int n = 0; n < 8; n++) {
            eight[n] = lamp(255, 255, 2);
        }
        Check.due("brightness of eight lamps", place(0, eight).place(0, 0, 1), 2040);
        Check.due("brightness of one lamp", place(7, lamp(255, 0, 2)).place(0, 0, 1), 7);
    }

    @Sentence(in = "Terms, DIMMING", says = "Its state is 0 if that is its target")
    static void dimming_state0() {
        state("as bright as told", place(50, lamp(50, 50, 2)), 0);
        state("dark as told, with a lamp", place(0, lamp(50, 0, 2)), 0);
        state("dark as told, without a lamp", place(0), 0);
        state("255 as told", place(255, lamp(255, 0, 2)), 0);
    }

    @Sentence(in = "Terms, DIMMING", says = "1 if no lamp covers it (and the target is above 0)")
    static void dimming_state1() {
        state("no lamp and a target of 1", place(1), 1);
        state("no lamp and a target of 255", place(255), 1);
        state("no lamp and a target of 0", place(0), 0);
        LampMural m = place(1, lamp(255, 0, 2));
        m.setWorks(0, false);
        state("a failed lamp and a target of 1", m, 1);
        m.setWorks(0, true);
        m.setRectangle(0, 1, 1, 2, 2);
        state("a lamp beside it and a target of 1", m, 1);
        state("a lamp without light and a target of 1", place(1, lamp(0, 0, 2)), 2);
    }

    @Sentence(in = "Terms, DIMMING", says = "2 if it is darker, 3 if it is brighter than its target.")
    static void dimming_states2And3() {
        state("darker by 1", place(51, lamp(50, 0, 2)), 2);
        state("as bright as told", place(50, lamp(50, 0, 2)), 0);
        state("darker by 255", place(255, lamp(0, 0, 2)), 2);
        state("brighter by 1", place(49, lamp(255, 50, 2)), 3);
        state("as dark as told", place(50, lamp(255, 50, 2)), 0);
        state("brighter by 1 than 0", place(0, lamp(1, 1, 2)), 3);
    }

    @Sentence(in = "Terms, BURNING", says = "The load of a lamp is 100 * (sum of its lights at all places)")
    static void burning_loadIsCut() {
        Check.due("load 100 * 10 / 300", row(100, 0, 10, 0, 0).lamp(0, 9), 3);
        Check.due("load 100 * 299 / 300", row(100, 0, 100, 100, 99).lamp(0, 9), 99);
        Check.due("load 100 * 300 / 300", row(100, 0, 100, 100, 255).lamp(0, 9), 100);
        Check.due("load 100 * 2 / 300", row(100, 0, 2, 0, 0).lamp(0, 9), 0);
        Check.due("load 100 * 3 / 300", row(100, 0, 3, 0, 0).lamp(0, 9), 1);
        Check.due("load of no light", row(100, 0, 0, 0, 0).lamp(0, 9), 0);
        LampMural largest = new LampMural();
        largest.begin(24, 16);
        largest.paint(0, 0, 23, 15, 255);
        largest.addLamp(255, 0);
        largest.setRectangle(0, 0, 0, 24, 16);
        Check.due("load 100 * 97920 / 97920", largest.lamp(0, 9), 100);
    }

    @Sentence(in = "Terms, BURNING", says = "it is 0 if that product is 0.")
    static void burning_loadOfNoPlacesOrNoLimit() {
        LampMural m = row(100, 0, 100, 100);
        Check.due("load", m.lamp(0, 9), 100);
        m.setWorks(0, false);
        Check.due("load of a failed lamp", m.lamp(0, 9), 0);
        m.setWorks(0, true);
        m.setRectangle(0, 2, 0, 3, 1);
        Check.due("load of a lamp beside the wall", m.lamp(0, 9), 0);
        Check.due("load of a limit of 0", row(0, 0, 100, 100).lamp(0, 9), 0);
        LampMural worn = row(9, 9, 100, 100);
        worn.setLamp(0, 2, 900);
        Check.due("load of a limit that wear made 0", worn.lamp(0, 9), 0);
        Check.due("burn(9999) at a limit of 0", worn.burn(9999), 900);
        Check.due("load of a product of 2", row(1, 0, 100, 0).lamp(0, 9), 50);
        Check.due("load of a product of 1", row(1, 0, 100).lamp(0, 9), 100);
        Check.due("load of a product of 1 without light", row(1, 0, 0).lamp(0, 9), 0);
    }

    @Sentence(in = "Terms, BURNING", says = "To burn some hours means: all loads are found, and then the wear")
    static void burning_allLoadsAreFoundFirst() {
        LampMural m = place(100, lamp(100, 0, 2), lamp(100, 0, 2));
        Check.due("burn(1000)", m.burn(1000), 500);
        Check.due("wear of the lamp 0", m.lamp(0, 2), 500);
        Check.due("wear of the lamp 1, by its load before", m.lamp(1, 2), 500);
        LampMural alone = row(100, 0, 50, 50);
        Check.due("burn(1000) of one lamp, by its load before", alone.burn(1000), 500);
    }

    @Sentence(in = "Terms, BURNING", says = "the wear of each lamp that works increases by hours * load / 100")
    static void burning_wearOfTheWorkingIsCut() {
        LampMural m = row(100, 0, 33, 33);
        m.burn(3);
        Check.due("wear by 3 * 33 / 100", m.lamp(0, 2), 0);
        m.burn(4);
        Check.due("wear by 4 * 33 / 100", m.lamp(0, 2), 1);
        LampMural full = row(100, 0, 100, 100);
        full.burn(1);
        Check.due("wear by 1 * 100 / 100", full.lamp(0, 2), 1);
        full.setWorks(0, false);
        full.burn(9999);
        Check.due("wear of a failed lamp", full.lamp(0, 2), 1);
        LampMural dark = row(100, 0, 0, 0);
        dark.burn(9999);
        Check.due("wear at a load of 0", dark.lamp(0, 2), 0);
    }

    @Sentence(in = "Terms, BURNING", says = "but not above 900.")
    static void burning_wearNotAbove900() {
        int[][] hoursAndWear = {{899, 899}, {900, 900}, {901, 900}, {9999, 900}};
        for (int[] pair : hoursAndWear) {
            LampMural m = row(200, 0, 255);
            Check.due("burn(" + pair[0] + ")", m.burn(pair[0]), pair[1]);
            Check.due("wear after burn(" + pair[0] + ")", m.lamp(0, 2), pair[1]);
        }
        LampMural worn = row(200, 0, 255);
        worn.setLamp(0, 2, 890);
        Check.due("890 and 9", worn.burn(9), 899);
        Check.due("899 and 1", worn.burn(1), 900);
        Check.due("900 and 1", worn.burn(1), 900);
    }

    @Sentence(in = "Terms, BURNING", says = "Hours that were burned are counted.")
    static void burning_hoursAreCounted() {
        LampMural m = new LampMural();
        Check.due("hours at first", m.whole(12), 0);
        m.burn(1);
        Check.due("hours without lamps", m.whole(12), 1);
        m.burn(9999);
        Check.due("more hours than one call can burn", m.whole(12), 10000);
        Check.argument("burn(0)", m, () -> m.burn(0));
        Check.due("hours after a refused call", m.whole(12), 10000);
        Check.typed(m, "burn 9999;burn 1;").runCommands();
        Check.due("hours after a run", m.whole(12), 20000);
        m.undo();
        Check.due("hours after undo()", m.whole(12), 10000);
    }
}
