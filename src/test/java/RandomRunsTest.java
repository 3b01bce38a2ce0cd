import java.util.Random;

/** Long runs of drawn calls, the same ones each time, answered by LampMural as by PlainMural. */
public final class RandomRunsTest {
    private static final String[] PIECES = {"wall ", "paint ", "lamp ", "corner ", "shift ", "fail ", "mend ", "burn ",
        "wal", "1", "-3", "0", " 2", " 12", ";", "; ", " ", " -", "x", "99999", "\t", "burn 5;", "lamp 90 4;"};

    private final Random random;
    private final LampMural mural = new LampMural();
    private final PlainMural plain = new PlainMural();
    private int[] a = new int[5];

    private RandomRunsTest(long seed) {
        random = new Random(seed);
    }

    public static void main(String[] args) {
        Check.endInTime("RandomRunsTest");
        for (int seed = 1; seed <= 150; seed++) {
            new RandomRunsTest(seed).run(seed);
        }
        for (int seed = 1; seed <= 3000; seed++) {
            new RandomRunsTest(seed).texts(seed);
        }
        Check.end("RandomRunsTest");
    }

    /** Mostly in the range, now and then just beyond it or far away. */
    private int draw(int low, int high) {
        int kind = random.nextInt(60);
        if (kind == 0) {
            return low - 1;
        }
        if (kind == 1) {
            return high + 1;
        }
        if (kind == 2) {
            return random.nextInt();
        }
        return low + random.nextInt(high - low + 1);
    }

    private int drawLamp() {
        return draw(0, Math.max(0, mural.whole(4) - 1));
    }

    private int drawColumn() {
        return draw(0, mural.whole(0) - 1);
    }

    private int drawRow() {
        return draw(0, mural.whole(1) - 1);
    }

    private void run(int seed) {
        int calls = 60;
        for (int i = 0; i < calls; i++) {
            int kind = i < 10 ? random.nextInt(6) : random.nextInt(34);
            String name = "seed " + seed + " call " + i + " kind " + kind;
            drawArguments(kind);
            Check.Call[] pair = change(kind);
            if (pair == null) {
                pair = look(kind);
            }
            compare(name, pair[0], pair[1]);
            if (kind < 16) {
                compare(name + " digest", mural::digest, plain::digest);
            }
        }
    }

    private void drawArguments(int kind) {
        switch (kind) {
            case 0 -> a = new int[] {draw(1, random.nextInt(6) == 0 ? 24 : 8), draw(1, random.nextInt(6) == 0 ? 16 : 6)};
            case 1, 2 -> {
                int x = drawColumn();
                int y = drawRow();
                a = new int[] {x, y, random.nextInt(9) == 0 ? drawColumn() : Math.max(x, drawColumn()),
                    random.nextInt(9) == 0 ? drawRow() : Math.max(y, drawRow()), draw(0, 255)};
            }
            case 3 -> a = new int[] {draw(0, 255), random.nextBoolean() ? draw(0, 255) : draw(0, 30)};
            case 4, 5, 6 -> {
                int x = draw(-3, 4);
                int y = draw(-3, 4);
                a = new int[] {drawLamp(), x, y, x + 1 + random.nextInt(9), y + 1 + random.nextInt(9)};
            }
            case 7, 8, 9 -> a = new int[] {drawLamp(), draw(0, 3), draw(random.nextInt(5) == 0 ? -20 : 0, 8),
                draw(0, random.nextInt(5) == 0 ? 40 : 8)};
            case 10 -> {
                int what = draw(0, 2);
                a = new int[] {drawLamp(), what, draw(0, what == 2 ? 900 : 255)};
            }
            case 11 -> a = new int[] {drawLamp(), random.nextInt(3)};
            case 12 -> a = new int[] {draw(-2, 2), draw(-2, 2)};
            case 13 -> a = new int[] {draw(1, random.nextInt(3) == 0 ? 9999 : 300)};
            default -> a = new int[] {drawLamp(), drawColumn(), drawRow(), draw(0, 14), draw(0, 5)};
        }
    }

    private Check.Call[] change(int kind) {
        return switch (kind) {
            case 0 -> both(() -> mural.begin(a[0], a[1]), () -> plain.begin(a[0], a[1]));
            case 1, 2 -> both(() -> mural.paint(a[0], a[1], a[2], a[3], a[4]),
                    () -> plain.paint(a[0], a[1], a[2], a[3], a[4]));
            case 3 -> both(() -> mural.addLamp(a[0], a[1]), () -> plain.addLamp(a[0], a[1]));
            case 4, 5, 6 -> both(() -> mural.setRectangle(a[0], a[1], a[2], a[3], a[4]),
                    () -> plain.setRectangle(a[0], a[1], a[2], a[3], a[4]));
            case 7, 8, 9 -> both(() -> mural.setCorner(a[0], a[1], a[2], a[3]),
                    () -> plain.setCorner(a[0], a[1], a[2], a[3]));
            case 10 -> both(() -> mural.setLamp(a[0], a[1], a[2]), () -> plain.setLamp(a[0], a[1], a[2]));
            case 11 -> both(() -> mural.setWorks(a[0], a[1] > 0), () -> plain.setWorks(a[0], a[1] > 0));
            case 12 -> both(() -> mural.shift(a[0], a[1]), () -> plain.shift(a[0], a[1]));
            case 13 -> both(() -> mural.burn(a[0]), () -> plain.burn(a[0]));
            case 14 -> both(mural::undo, plain::undo);
            case 15 -> runText(rightText());
            default -> null;
        };
    }

    private Check.Call[] look(int kind) {
        int few = a[3] % 4;
        return switch (kind) {
            case 16, 17 -> both(() -> mural.place(a[1], a[2], a[4]), () -> plain.place(a[1], a[2], a[4]));
            case 18, 19 -> both(() -> mural.light(a[0], a[1], a[2]), () -> plain.light(a[0], a[1], a[2]));
            case 20, 21 -> both(() -> mural.weight(a[0], a[1], a[2]), () -> plain.weight(a[0], a[1], a[2]));
            case 22, 23 -> both(() -> mural.lamp(a[0], a[3]), () -> plain.lamp(a[0], a[3]));
            case 24 -> both(() -> mural.corner(a[0], a[4], few), () -> plain.corner(a[0], a[4], few));
            case 25 -> both(() -> mural.whole(a[3]), () -> plain.whole(a[3]));
            case 26, 27 -> both(() -> mural.wrong(a[3]), () -> plain.wrong(a[3]));
            case 28, 29 -> both(() -> mural.wrongWithout(a[0]), () -> plain.wrongWithout(a[0]));
            case 30 -> both(mural::dearestLamp, plain::dearestLamp);
            case 31 -> both(() -> mural.wrongShifted(a[4], few), () -> plain.wrongShifted(a[4], few));
            case 32 -> both(() -> mural.bestShift(few), () -> plain.bestShift(few));
            default -> both(() -> mural.neededLimit(a[0]), () -> plain.neededLimit(a[0]));
        };
    }

    private static Check.Call[] both(Check.Call first, Check.Call second) {
        return new Check.Call[] {first, second};
    }

    private String rightText() {
        StringBuilder text = new StringBuilder();
        for (int i = random.nextInt(6); i >= 0; i--) {
            switch (random.nextInt(8)) {
                case 0 -> text.append("wall ").append(1 + random.nextInt(7)).append(" 5;");
                case 1 -> text.append(" paint 0 0 2  2 ").append(random.nextInt(260)).append(" ;");
                case 2 -> text.append("lamp ").append(random.nextInt(256)).append(" 9;");
                case 3 -> text.append("corner ").append(random.nextInt(4)).append(" 2 7 ").append(random.nextInt(9))
                        .append("; ");
                case 4 -> text.append("shift -").append(random.nextInt(3)).append(" 1;");
                case 5 -> text.append("fail ").append(random.nextInt(3)).append(";");
                case 6 -> text.append("mend 00").append(random.nextInt(3)).append(";");
                default -> text.append("burn ").append(random.nextInt(200)).append(";");
            }
        }
        return text.toString();
    }

    private Check.Call[] runText(String text) {
        compare("clearCommands", mural::clearCommands, plain::clearCommands);
        for (int i = 0; i < text.length(); i++) {
            int value = text.charAt(i);
            compare("type", () -> mural.type(value), () -> plain.type(value));
        }
        return both(mural::runCommands, plain::runCommands);
    }

    private void texts(int seed) {
        StringBuilder text = new StringBuilder();
        for (int i = random.nextInt(12); i >= 0; i--) {
            text.append(PIECES[random.nextInt(PIECES.length)]);
        }
        if (random.nextInt(3) == 0) {
            String right = rightText();
            int cut = random.nextInt(right.length() + 1);
            text.setLength(0);
            text.append(right, 0, cut).append(PIECES[random.nextInt(PIECES.length)]).append(right.substring(cut));
        }
        text.setLength(Math.min(text.length(), 150));
        Check.Call[] pair = runText(text.toString());
        compare("seed " + seed + " text '" + text + "'", pair[0], pair[1]);
        compare("its digest", mural::digest, plain::digest);
    }

    private static void compare(String name, Check.Call first, Check.Call second) {
        String want = answer(second);
        String got = answer(first);
        Check.due(got.equals(want) ? name : name + " (" + got + " for " + want + ")", got.equals(want) ? 1 : 0, 1);
    }

    private static String answer(Check.Call call) {
        try {
            return Long.toString(call.answer());
        } catch (RuntimeException e) {
            return e.getClass().getName();
        }
    }
}
