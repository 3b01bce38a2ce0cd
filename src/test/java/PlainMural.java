import java.util.ArrayList;
import java.util.Arrays;
import java.util.List;
import java.util.regex.Matcher;
import java.util.regex.Pattern;

/** A second reading of the document, slow and with nothing kept, for RandomRunsTest to compare with. */
final class PlainMural {
    static final int NONE = -1000;

    private static final String NUMBER = " +-?[0-9]{1,4}";
    private static final String[] WORDS = {"wall", "paint", "lamp", "corner", "shift", "fail", "mend", "burn"};
    private static final int[] COUNTS = {2, 5, 2, 4, 2, 1, 1, 1};

    /** A lamp; never changed after it has been made visible to a saved state. */
    private static final class Lamp {
        int greatest;
        int least;
        int wear;
        boolean works = true;
        int[][] corners = new int[4][2];

        Lamp copy() {
            Lamp l = new Lamp();
            l.greatest = greatest;
            l.least = least;
            l.wear = wear;
            l.works = works;
            for (int i = 0; i < 4; i++) {
                l.corners[i] = corners[i].clone();
            }
            return l;
        }

        int limit() {
            return greatest * (1000 - wear) / 1000;
        }

        int floor() {
            return Math.min(least, limit());
        }
    }

    private static final class State {
        int columns = 12;
        int rows = 8;
        int sx;
        int sy;
        int hours;
        int[][] targets = new int[8][12];
        List<Lamp> lamps = new ArrayList<>();

        State copy() {
            State s = new State();
            s.columns = columns;
            s.rows = rows;
            s.sx = sx;
            s.sy = sy;
            s.hours = hours;
            s.targets = new int[rows][];
            for (int y = 0; y < rows; y++) {
                s.targets[y] = targets[y].clone();
            }
            for (Lamp l : lamps) {
                s.lamps.add(l.copy());
            }
            return s;
        }
    }

    private State now = new State();
    private final List<State> saved = new ArrayList<>();
    private final StringBuilder text = new StringBuilder();
    private boolean saving = true;

    private void save() {
        if (saving) {
            saved.add(now.copy());
            if (saved.size() > 4) {
                saved.remove(0);
            }
        }
    }

    private static void argument(boolean fits) {
        if (!fits) {
            throw new IllegalArgumentException();
        }
    }

    private static void index(boolean fits) {
        if (!fits) {
            throw new IndexOutOfBoundsException();
        }
    }

    private static void state(boolean fits) {
        if (!fits) {
            throw new IllegalStateException();
        }
    }

    private static boolean in(int value, int low, int high) {
        return low <= value && value <= high;
    }

    private void needLamp(int n) {
        index(in(n, 0, now.lamps.size() - 1));
    }

    private void needPlace(int x, int y) {
        index(in(x, 0, now.columns - 1) && in(y, 0, now.rows - 1));
    }

    int begin(int columns, int rows) {
        argument(in(columns, 1, 24) && in(rows, 1, 16));
        save();
        int before = now.columns * now.rows;
        now.columns = columns;
        now.rows = rows;
        now.sx = 0;
        now.sy = 0;
        now.targets = new int[rows][columns];
        return before;
    }

    int paint(int x, int y, int u, int v, int target) {
        needPlace(x, y);
        needPlace(u, v);
        argument(u >= x && v >= y && in(target, 0, 255));
        save();
        int count = 0;
        for (int j = y; j <= v; j++) {
            for (int i = x; i <= u; i++) {
                count += now.targets[j][i] != target ? 1 : 0;
                now.targets[j][i] = target;
            }
        }
        return count;
    }

    int addLamp(int greatest, int least) {
        argument(in(greatest, 0, 255) && in(least, 0, 255));
        state(now.lamps.size() < 8);
        save();
        Lamp l = new Lamp();
        l.greatest = greatest;
        l.least = least;
        now.lamps.add(l);
        return now.lamps.size() - 1;
    }

    int setCorner(int lamp, int corner, int x, int y) {
        needLamp(lamp);
        index(in(corner, 0, 3));
        argument(in(x, -20, 40) && in(y, -20, 40));
        save();
        now.lamps.get(lamp).corners[corner] = new int[] {x, y};
        return lamp(lamp, 6);
    }

    int setRectangle(int lamp, int x, int y, int u, int v) {
        needLamp(lamp);
        argument(in(x, -20, 39) && in(y, -20, 39) && in(u, x + 1, 40) && in(v, y + 1, 40));
        save();
        now.lamps.get(lamp).corners = new int[][] {{x, y}, {u, y}, {u, v}, {x, v}};
        return lamp(lamp, 7);
    }

    int setLamp(int lamp, int what, int value) {
        needLamp(lamp);
        argument(in(what, 0, 2) && in(value, 0, what == 2 ? 900 : 255));
        save();
        int before = lamp(lamp, what);
        Lamp l = now.lamps.get(lamp);
        l.greatest = what == 0 ? value : l.greatest;
        l.least = what == 1 ? value : l.least;
        l.wear = what == 2 ? value : l.wear;
        return before;
    }

    int setWorks(int lamp, boolean works) {
        needLamp(lamp);
        save();
        int before = lamp(lamp, 3);
        now.lamps.get(lamp).works = works;
        return before;
    }

    int shift(int sx, int sy) {
        argument(in(sx, -10, 10) && in(sy, -10, 10));
        save();
        now.sx = sx;
        now.sy = sy;
        return wrongPlaces(now).size();
    }

    int burn(int hours) {
        argument(in(hours, 1, 9999));
        save();
        int[] loads = new int[now.lamps.size()];
        for (int n = 0; n < loads.length; n++) {
            loads[n] = lamp(n, 9);
        }
        int most = 0;
        for (int n = 0; n < loads.length; n++) {
            Lamp l = now.lamps.get(n);
            if (l.works) {
                l.wear = Math.min(900, l.wear + hours * loads[n] / 100);
            }
            most = Math.max(most, l.wear);
        }
        now.hours += hours;
        return most;
    }

    private static int cross(int[] a, int[] b, int[] c, int[] d) {
        return (b[0] - a[0]) * (d[1] - c[1]) - (b[1] - a[1]) * (d[0] - c[0]);
    }

    private static int[][] points(Lamp l) {
        int[][] points = new int[4][];
        for (int i = 0; i < 4; i++) {
            points[i] = new int[] {2 * l.corners[i][0], 2 * l.corners[i][1]};
        }
        return points;
    }

    private static boolean good(Lamp l) {
        int[][] p = points(l);
        int[] zero = {0, 0};
        int sum = 0;
        for (int i = 0; i < 4; i++) {
            if (cross(p[i], p[(i + 1) % 4], p[(i + 1) % 4], p[(i + 2) % 4]) < 0) {
                return false;
            }
            sum += cross(zero, p[i], zero, p[(i + 1) % 4]);
        }
        return sum > 0;
    }

    private static int weight(State s, Lamp l, int x, int y) {
        if (!l.works || !good(l)) {
            return NONE;
        }
        int[][] p = points(l);
        int[] point = {2 * (x + s.sx) + 1, 2 * (y + s.sy) + 1};
        int least = Integer.MAX_VALUE;
        for (int i = 0; i < 4; i++) {
            int[] j = p[(i + 1) % 4];
            int height = cross(p[i], j, p[i], point);
            if (height < 0) {
                return NONE;
            }
            if (!Arrays.equals(p[i], j)) {
                least = Math.min(least, height / (Math.abs(j[0] - p[i][0]) + Math.abs(j[1] - p[i][1])));
            }
        }
        return 1 + least;
    }

    private static int[] lights(State s, int x, int y) {
        int count = s.lamps.size();
        int[] lights = new int[count];
        int[] weights = new int[count];
        int all = 0;
        int heaviest = -1;
        for (int n = 0; n < count; n++) {
            weights[n] = weight(s, s.lamps.get(n), x, y);
            lights[n] = NONE;
            if (weights[n] != NONE) {
                all += weights[n];
                heaviest = heaviest < 0 || weights[n] > weights[heaviest] ? n : heaviest;
            }
        }
        if (heaviest < 0) {
            return lights;
        }
        int target = s.targets[y][x];
        int missing = target;
        for (int n = 0; n < count; n++) {
            if (weights[n] != NONE) {
                lights[n] = target * weights[n] / all;
                missing -= lights[n];
            }
        }
        lights[heaviest] += missing;
        int d = target;
        for (int n = 0; n < count; n++) {
            if (weights[n] != NONE) {
                Lamp l = s.lamps.get(n);
                lights[n] = lights[n] > l.limit() ? l.limit() : lights[n];
                lights[n] = lights[n] < l.floor() ? l.floor() : lights[n];
                d -= lights[n];
            }
        }
        for (int n = 0; n < count; n++) {
            if (weights[n] != NONE) {
                Lamp l = s.lamps.get(n);
                while (d > 0 && lights[n] < l.limit()) {
                    lights[n]++;
                    d--;
                }
                while (d < 0 && lights[n] > l.floor()) {
                    lights[n]--;
                    d++;
                }
            }
        }
        return lights;
    }

    private static int value(State s, int x, int y, int what) {
        int[] lights = lights(s, x, y);
        int brightness = 0;
        int set = 0;
        int limits = 0;
        int floors = 0;
        for (int n = 0; n < lights.length; n++) {
            if (lights[n] != NONE) {
                brightness += lights[n];
                set += 1 << n;
                limits += s.lamps.get(n).limit();
                floors += s.lamps.get(n).floor();
            }
        }
        int target = s.targets[y][x];
        int uneven = set == 0 ? 1 : brightness < target ? 2 : 3;
        return new int[] {target, brightness, brightness == target ? 0 : uneven, set, limits, floors}[what];
    }

    private static List<Integer> wrongPlaces(State s) {
        List<Integer> wrong = new ArrayList<>();
        for (int y = 0; y < s.rows; y++) {
            for (int x = 0; x < s.columns; x++) {
                if (value(s, x, y, 2) != 0) {
                    wrong.add(100 * y + x);
                }
            }
        }
        return wrong;
    }

    int place(int x, int y, int what) {
        needPlace(x, y);
        argument(in(what, 0, 5));
        return value(now, x, y, what);
    }

    int light(int lamp, int x, int y) {
        needLamp(lamp);
        needPlace(x, y);
        return lights(now, x, y)[lamp];
    }

    int weight(int lamp, int x, int y) {
        needLamp(lamp);
        needPlace(x, y);
        return weight(now, now.lamps.get(lamp), x, y);
    }

    int lamp(int lamp, int what) {
        needLamp(lamp);
        argument(in(what, 0, 11));
        Lamp l = now.lamps.get(lamp);
        int covered = 0;
        int sum = 0;
        int most = 0;
        int alone = 0;
        for (int y = 0; y < now.rows && what > 6; y++) {
            for (int x = 0; x < now.columns; x++) {
                int[] lights = lights(now, x, y);
                if (lights[lamp] != NONE) {
                    covered++;
                    sum += lights[lamp];
                    most = Math.max(most, lights[lamp]);
                    alone += Arrays.stream(lights).filter(v -> v != NONE).count() == 1 ? 1 : 0;
                }
            }
        }
        int load = covered * l.limit() == 0 ? 0 : 100 * sum / (covered * l.limit());
        return new int[] {l.greatest, l.least, l.wear, l.works ? 1 : 0, l.limit(), l.floor(), good(l) ? 1 : 0,
            covered, sum, load, most, alone}[what];
    }

    int corner(int lamp, int corner, int axis) {
        needLamp(lamp);
        index(in(corner, 0, 3));
        argument(in(axis, 0, 1));
        return now.lamps.get(lamp).corners[corner][axis];
    }

    int whole(int what) {
        argument(in(what, 0, 14));
        int[] values = new int[15];
        values[0] = now.columns;
        values[1] = now.rows;
        values[2] = now.sx;
        values[3] = now.sy;
        values[4] = now.lamps.size();
        values[5] = (int) now.lamps.stream().filter(l -> l.works).count();
        for (int y = 0; y < now.rows; y++) {
            for (int x = 0; x < now.columns; x++) {
                values[6 + value(now, x, y, 2)]++;
                values[10] += now.targets[y][x];
                values[11] += value(now, x, y, 1);
                values[13] += Integer.bitCount(value(now, x, y, 3)) > 1 ? 1 : 0;
            }
        }
        values[12] = now.hours;
        values[14] = text.length();
        return values[what];
    }

    int wrong(int index) {
        argument(index >= 0);
        List<Integer> wrong = wrongPlaces(now);
        return index < wrong.size() ? wrong.get(index) : NONE;
    }

    int wrongWithout(int lamp) {
        needLamp(lamp);
        State other = now.copy();
        other.lamps.get(lamp).works = false;
        return wrongPlaces(other).size();
    }

    int dearestLamp() {
        int dearest = NONE;
        for (int n = now.lamps.size() - 1; n >= 0; n--) {
            dearest = dearest == NONE || wrongWithout(n) >= wrongWithout(dearest) ? n : dearest;
        }
        return dearest;
    }

    int wrongShifted(int sx, int sy) {
        argument(in(sx, -10, 10) && in(sy, -10, 10));
        State other = now.copy();
        other.sx = sx;
        other.sy = sy;
        return wrongPlaces(other).size();
    }

    int bestShift(int most) {
        argument(in(most, 0, 3));
        int best = Integer.MAX_VALUE;
        for (int sx = -most; sx <= most; sx++) {
            for (int sy = -most; sy <= most; sy++) {
                best = Math.min(best, 10000 * wrongShifted(sx, sy) + 100 * (sy + 10) + sx + 10);
            }
        }
        return best % 10000;
    }

    int neededLimit(int lamp) {
        needLamp(lamp);
        int needed = 0;
        for (int y = 0; y < now.rows; y++) {
            for (int x = 0; x < now.columns; x++) {
                int light = lights(now, x, y)[lamp];
                if (light != NONE) {
                    needed = Math.max(needed, light + now.targets[y][x] - value(now, x, y, 1));
                }
            }
        }
        return needed;
    }

    int type(int value) {
        argument(in(value, 0, 127));
        state(text.length() < 150);
        text.append((char) value);
        return text.length();
    }

    int clearCommands() {
        int length = text.length();
        text.setLength(0);
        return length;
    }

    private static Pattern grammar() {
        StringBuilder commands = new StringBuilder();
        for (int w = 0; w < WORDS.length; w++) {
            commands.append(w == 0 ? "" : "|").append(WORDS[w]).append("(").append(NUMBER).append("){")
                    .append(COUNTS[w]).append("}");
        }
        return Pattern.compile("( *(" + commands + ") *;)* *");
    }

    private static final Pattern GRAMMAR = grammar();

    /** The longest beginning that a right text could have ends at the fault, but for words that are none. */
    static int fault(String text) {
        if (GRAMMAR.matcher(text).matches()) {
            return -1;
        }
        int end = text.length();
        while (true) {
            Matcher matcher = GRAMMAR.matcher(text.substring(0, end));
            if (matcher.matches() || matcher.hitEnd()) {
                break;
            }
            end--;
        }
        int first = end;
        while (first > 0 && in(text.charAt(first - 1), 'a', 'z')) {
            first--;
        }
        int last = end;
        while (last < text.length() && in(text.charAt(last), 'a', 'z')) {
            last++;
        }
        return Arrays.asList(WORDS).contains(text.substring(first, last)) ? end : first;
    }

    int runCommands() {
        int fault = fault(text.toString());
        if (fault >= 0) {
            return -10 - fault;
        }
        save();
        saving = false;
        int done = 0;
        try {
            for (String command : text.toString().split(";")) {
                if (!command.isBlank()) {
                    carryOut(command.trim().split(" +"));
                    done++;
                }
            }
        } catch (IllegalArgumentException | IllegalStateException | IndexOutOfBoundsException e) {
            // The run ends here; what was done stays done.
        }
        saving = true;
        return done;
    }

    private void carryOut(String[] parts) {
        int[] n = new int[6];
        for (int i = 1; i < parts.length; i++) {
            n[i] = Integer.parseInt(parts[i]);
        }
        switch (parts[0]) {
            case "wall" -> begin(n[1], n[2]);
            case "paint" -> paint(n[1], n[2], n[3], n[4], n[5]);
            case "lamp" -> addLamp(n[1], n[2]);
            case "corner" -> setCorner(n[1], n[2], n[3], n[4]);
            case "shift" -> shift(n[1], n[2]);
            case "fail" -> setWorks(n[1], false);
            case "mend" -> setWorks(n[1], true);
            default -> burn(n[1]);
        }
    }

    int undo() {
        state(!saved.isEmpty());
        now = saved.remove(saved.size() - 1);
        return saved.size();
    }

    long digest() {
        long h = 43276;
        h = 31 * h + saved.size();
        for (int what = 0; what <= 14; what++) {
            h = 31 * h + whole(what);
        }
        for (int n = 0; n < now.lamps.size(); n++) {
            for (int what = 0; what <= 11; what++) {
                h = 31 * h + lamp(n, what);
            }
            for (int[] corner : now.lamps.get(n).corners) {
                h = 31 * (31 * h + corner[0]) + corner[1];
            }
        }
        for (int y = 0; y < now.rows; y++) {
            for (int x = 0; x < now.columns; x++) {
                for (int what = 0; what <= 5; what++) {
                    h = 31 * h + place(x, y, what);
                }
                for (int n = 0; n < now.lamps.size(); n++) {
                    h = 31 * h + light(n, x, y);
                }
            }
        }
        return h;
    }
}
