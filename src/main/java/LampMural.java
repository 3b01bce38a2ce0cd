/**
 * A mural that several lamps project onto a wall of places. All answers come from three parts: the scene (what
 * undo restores), the survey (what the lamps do at each place, found anew after a change), and the command text.
 */
public final class LampMural {
    public static final int NONE = -1000;

    private static final int MOST_COLUMNS = 24;
    private static final int MOST_ROWS = 16;
    private static final int MOST_PLACES = MOST_COLUMNS * MOST_ROWS;
    private static final int MOST_SHIFT = 10;
    private static final int MOST_SEARCHED_SHIFT = 3;
    private static final int MOST_LAMPS = 8;
    private static final int CORNERS = 4;
    private static final int LEAST_CORNER = -20;
    private static final int MOST_CORNER = 40;
    private static final int MOST_LIGHT = 255;
    private static final int MOST_WEAR = 900;
    private static final int MOST_HOURS = 9999;
    private static final int MOST_BYTES = 150;
    private static final int MOST_BYTE = 127;
    private static final int MOST_NUMBERS = 5;
    private static final int MOST_DIGITS = 4;
    private static final int MOST_SAVED = 4;
    private static final int FIRST_HASH = 43276;

    private static final int RIGHT = 0;
    private static final int UNCOVERED = 1;
    private static final int TOO_DARK = 2;
    private static final int TOO_BRIGHT = 3;

    private static final int FINE = 0;
    private static final int NO_INDEX = 1;
    private static final int BAD_ARGUMENT = 2;
    private static final int BAD_STATE = 3;

    private static final int NO_WORD = 0;
    private static final int WALL = 1;
    private static final int PAINT = 2;
    private static final int LAMP = 3;
    private static final int CORNER = 4;
    private static final int SHIFT = 5;
    private static final int FAIL = 6;
    private static final int MEND = 7;
    private static final int BURN = 8;

    private final Scene scene;
    private final Survey survey;
    private final Dimmer whatIf;
    private final History history;
    private final CommandText commands;

    public LampMural() {
        scene = new Scene();
        survey = new Survey();
        whatIf = new Dimmer();
        history = new History();
        commands = new CommandText();
    }

    // ---- wall and lamps

    public int begin(int columns, int rows) throws IllegalArgumentException {
        refuseArgument(faultOfWall(columns, rows));
        history.save(scene);
        int before = scene.placeCount();
        scene.startWall(columns, rows);
        return before;
    }

    public int paint(int x, int y, int u, int v, int target)
            throws IndexOutOfBoundsException, IllegalArgumentException {
        int fault = faultOfPainting(x, y, u, v, target);
        refuseIndex(fault);
        refuseArgument(fault);
        history.save(scene);
        return scene.setTargets(x, y, u, v, target);
    }

    public int addLamp(int greatest, int least) throws IllegalArgumentException, IllegalStateException {
        int fault = faultOfNewLamp(greatest, least);
        refuseArgument(fault);
        refuseState(fault);
        history.save(scene);
        return scene.hangLamp(greatest, least);
    }

    public int setCorner(int lamp, int corner, int x, int y)
            throws IndexOutOfBoundsException, IllegalArgumentException {
        int fault = faultOfCorner(lamp, corner, x, y);
        refuseIndex(fault);
        refuseArgument(fault);
        history.save(scene);
        scene.moveCorner(lamp, corner, x, y);
        return scene.isGood(lamp) ? 1 : 0;
    }

    public int setRectangle(int lamp, int x, int y, int u, int v)
            throws IndexOutOfBoundsException, IllegalArgumentException {
        int fault = faultOfRectangle(lamp, x, y, u, v);
        refuseIndex(fault);
        refuseArgument(fault);
        history.save(scene);
        scene.moveCorner(lamp, 0, x, y);
        scene.moveCorner(lamp, 1, u, y);
        scene.moveCorner(lamp, 2, u, v);
        scene.moveCorner(lamp, 3, x, v);
        survey.refresh(scene);
        return survey.placesOf(lamp);
    }

    public int setLamp(int lamp, int what, int value) throws IndexOutOfBoundsException, IllegalArgumentException {
        int fault = faultOfLampValue(lamp, what, value);
        refuseIndex(fault);
        refuseArgument(fault);
        history.save(scene);
        int before = lampValue(lamp, what);
        scene.setLampValue(lamp, what, value);
        return before;
    }

    public int setWorks(int lamp, boolean works) throws IndexOutOfBoundsException {
        refuseIndex(faultOfLamp(lamp));
        history.save(scene);
        int before = scene.isWorking(lamp) ? 1 : 0;
        scene.switchLamp(lamp, works);
        return before;
    }

    public int shift(int sx, int sy) throws IllegalArgumentException {
        refuseArgument(faultOfShift(sx, sy));
        history.save(scene);
        scene.moveWall(sx, sy);
        survey.refresh(scene);
        return survey.wrongPlaces();
    }

    public int burn(int hours) throws IllegalArgumentException {
        refuseArgument(faultOfHours(hours));
        history.save(scene);
        burnHours(hours);
        return scene.greatestWear();
    }

    // ---- values

    public int place(int x, int y, int what) throws IndexOutOfBoundsException, IllegalArgumentException {
        refuseIndex(faultOfPlace(x, y));
        refuseArgument(faultOfRange(what, 0, 5));
        return placeValue(scene.indexOfPlace(x, y), what);
    }

    public int light(int lamp, int x, int y) throws IndexOutOfBoundsException {
        refuseIndex(faultOfLamp(lamp));
        refuseIndex(faultOfPlace(x, y));
        survey.refresh(scene);
        return survey.lightOf(lamp, scene.indexOfPlace(x, y));
    }

    public int weight(int lamp, int x, int y) throws IndexOutOfBoundsException {
        refuseIndex(faultOfLamp(lamp));
        refuseIndex(faultOfPlace(x, y));
        survey.refresh(scene);
        if (!survey.isCovered(lamp, scene.indexOfPlace(x, y))) {
            return NONE;
        }
        return scene.weightAt(lamp, pointOf(x, scene.shiftX), pointOf(y, scene.shiftY));
    }

    public int lamp(int lamp, int what) throws IndexOutOfBoundsException, IllegalArgumentException {
        refuseIndex(faultOfLamp(lamp));
        refuseArgument(faultOfRange(what, 0, 11));
        return lampValue(lamp, what);
    }

    public int corner(int lamp, int corner, int axis) throws IndexOutOfBoundsException, IllegalArgumentException {
        refuseIndex(faultOfLamp(lamp));
        refuseIndex(within(corner, 0, CORNERS - 1) ? FINE : NO_INDEX);
        refuseArgument(faultOfRange(axis, 0, 1));
        return scene.cornerValue(lamp, corner, axis);
    }

    public int whole(int what) throws IllegalArgumentException {
        refuseArgument(faultOfRange(what, 0, 14));
        return wholeValue(what);
    }

    public int wrong(int index) throws IllegalArgumentException {
        refuseArgument(index >= 0 ? FINE : BAD_ARGUMENT);
        survey.refresh(scene);
        int left = index;
        for (int y = 0; y < scene.rows; y++) {
            for (int x = 0; x < scene.columns; x++) {
                if (survey.stateAt(scene.indexOfPlace(x, y)) != RIGHT) {
                    if (left == 0) {
                        return 100 * y + x;
                    }
                    left--;
                }
            }
        }
        return NONE;
    }

    // ---- what if, which changes nothing

    public int wrongWithout(int lamp) throws IndexOutOfBoundsException {
        refuseIndex(faultOfLamp(lamp));
        return wrongIfFailed(lamp);
    }

    public int dearestLamp() {
        int dearest = NONE;
        int most = -1;
        for (int n = 0; n < scene.lampCount; n++) {
            int count = wrongIfFailed(n);
            if (count > most) {
                most = count;
                dearest = n;
            }
        }
        return dearest;
    }

    public int wrongShifted(int sx, int sy) throws IllegalArgumentException {
        refuseArgument(faultOfShift(sx, sy));
        return whatIf.countWrong(scene, scene.shiningLamps(), sx, sy);
    }

    public int bestShift(int most) throws IllegalArgumentException {
        refuseArgument(faultOfRange(most, 0, MOST_SEARCHED_SHIFT));
        int lamps = scene.shiningLamps();
        int best = 0;
        int fewest = MOST_PLACES + 1;
        for (int sy = -most; sy <= most; sy++) {
            for (int sx = -most; sx <= most; sx++) {
                int count = whatIf.countWrong(scene, lamps, sx, sy);
                if (count < fewest) {
                    fewest = count;
                    best = 100 * (sy + MOST_SHIFT) + (sx + MOST_SHIFT);
                }
            }
        }
        return best;
    }

    public int neededLimit(int lamp) throws IndexOutOfBoundsException {
        refuseIndex(faultOfLamp(lamp));
        survey.refresh(scene);
        int needed = 0;
        for (int p = 0; p < scene.placeCount(); p++) {
            if (survey.isCovered(lamp, p)) {
                int here = survey.lightOf(lamp, p) + scene.targetAt(p) - survey.brightnessAt(p);
                needed = Math.max(needed, here);
            }
        }
        return needed;
    }

    // ---- command text, undo and checksum

    public int type(int value) throws IllegalArgumentException, IllegalStateException {
        refuseArgument(faultOfRange(value, 0, MOST_BYTE));
        refuseState(commands.length < MOST_BYTES ? FINE : BAD_STATE);
        return commands.append(value);
    }

    public int clearCommands() {
        return commands.empty();
    }

    public int runCommands() {
        int fault = commands.findFault();
        if (fault >= 0) {
            return -10 - fault;
        }
        history.save(scene);
        commands.rewind();
        int done = 0;
        for (int i = 0; i < MOST_BYTES; i++) {
            if (!commands.readCommand() || !carryOut()) {
                break;
            }
            done++;
        }
        return done;
    }

    public int undo() throws IllegalStateException {
        refuseState(history.count > 0 ? FINE : BAD_STATE);
        history.restore(scene);
        return history.count;
    }

    public long digest() {
        long hash = FIRST_HASH;
        hash = 31 * hash + history.count;
        for (int what = 0; what <= 14; what++) {
            hash = 31 * hash + wholeValue(what);
        }
        for (int n = 0; n < scene.lampCount; n++) {
            hash = addLampTo(hash, n);
        }
        for (int p = 0; p < scene.placeCount(); p++) {
            hash = addPlaceTo(hash, p);
        }
        return hash;
    }

    private long addLampTo(long hash, int n) {
        long sum = hash;
        for (int what = 0; what <= 11; what++) {
            sum = 31 * sum + lampValue(n, what);
        }
        for (int i = 0; i < CORNERS; i++) {
            sum = 31 * sum + scene.cornerValue(n, i, 0);
            sum = 31 * sum + scene.cornerValue(n, i, 1);
        }
        return sum;
    }

    private long addPlaceTo(long hash, int p) {
        long sum = hash;
        for (int what = 0; what <= 5; what++) {
            sum = 31 * sum + placeValue(p, what);
        }
        for (int n = 0; n < scene.lampCount; n++) {
            sum = 31 * sum + survey.lightOf(n, p);
        }
        return sum;
    }

    private int placeValue(int p, int what) {
        survey.refresh(scene);
        switch (what) {
            case 0:
                return scene.targetAt(p);
            case 1:
                return survey.brightnessAt(p);
            case 2:
                return survey.stateAt(p);
            case 3:
                return survey.coveringAt(p);
            case 4:
                return scene.sumOfLimits(survey.coveringAt(p));
            default:
                return scene.sumOfFloors(survey.coveringAt(p));
        }
    }

    private int lampValue(int n, int what) {
        survey.refresh(scene);
        switch (what) {
            case 0:
                return scene.greatest.get(n);
            case 1:
                return scene.least.get(n);
            case 2:
                return scene.wear.get(n);
            case 3:
                return scene.isWorking(n) ? 1 : 0;
            case 4:
                return scene.limitOf(n);
            case 5:
                return scene.floorOf(n);
            case 6:
                return scene.isGood(n) ? 1 : 0;
            case 7:
                return survey.placesOf(n);
            case 8:
                return survey.sumOfLights(n);
            case 9:
                return survey.loadOf(n, scene.limitOf(n));
            case 10:
                return survey.greatestLightOf(n);
            default:
                return survey.placesOnlyOf(n);
        }
    }

    private int wholeValue(int what) {
        survey.refresh(scene);
        switch (what) {
            case 0:
                return scene.columns;
            case 1:
                return scene.rows;
            case 2:
                return scene.shiftX;
            case 3:
                return scene.shiftY;
            case 4:
                return scene.lampCount;
            case 5:
                return scene.workingLamps();
            case 6:
            case 7:
            case 8:
            case 9:
                return survey.placesInState(what - 6);
            case 10:
                return scene.sumOfTargets();
            case 11:
                return survey.sumOfBrightness();
            case 12:
                return scene.hours;
            case 13:
                return survey.placesOfSeveral();
            default:
                return commands.length;
        }
    }

    private int wrongIfFailed(int n) {
        int others = scene.shiningLamps() & ~(1 << n);
        return whatIf.countWrong(scene, others, scene.shiftX, scene.shiftY);
    }

    /** All loads are of the lights before: the survey is not found anew while the lamps wear out. */
    private void burnHours(int hours) {
        survey.refresh(scene);
        for (int n = 0; n < scene.lampCount; n++) {
            if (scene.isWorking(n)) {
                scene.wearOut(n, hours * survey.loadOf(n, scene.limitOf(n)) / 100);
            }
        }
        scene.countHours(hours);
    }

    /** Carries out the command that was read last; false, and nothing done, if it would throw. */
    private boolean carryOut() {
        int a = commands.number(0);
        int b = commands.number(1);
        int c = commands.number(2);
        int d = commands.number(3);
        int e = commands.number(4);
        if (faultOfCommand(a, b, c, d, e) != FINE) {
            return false;
        }
        switch (commands.word) {
            case WALL:
                scene.startWall(a, b);
                break;
            case PAINT:
                scene.setTargets(a, b, c, d, e);
                break;
            case LAMP:
                scene.hangLamp(a, b);
                break;
            case CORNER:
                scene.moveCorner(a, b, c, d);
                break;
            case SHIFT:
                scene.moveWall(a, b);
                break;
            case FAIL:
                scene.switchLamp(a, false);
                break;
            case MEND:
                scene.switchLamp(a, true);
                break;
            default:
                burnHours(a);
                break;
        }
        return true;
    }

    private int faultOfCommand(int a, int b, int c, int d, int e) {
        switch (commands.word) {
            case WALL:
                return faultOfWall(a, b);
            case PAINT:
                return faultOfPainting(a, b, c, d, e);
            case LAMP:
                return faultOfNewLamp(a, b);
            case CORNER:
                return faultOfCorner(a, b, c, d);
            case SHIFT:
                return faultOfShift(a, b);
            case FAIL:
            case MEND:
                return faultOfLamp(a);
            default:
                return faultOfHours(a);
        }
    }

    private static int faultOfWall(int columns, int rows) {
        return within(columns, 1, MOST_COLUMNS) && within(rows, 1, MOST_ROWS) ? FINE : BAD_ARGUMENT;
    }

    private int faultOfPainting(int x, int y, int u, int v, int target) {
        if (!scene.hasPlace(x, y) || !scene.hasPlace(u, v)) {
            return NO_INDEX;
        }
        return u >= x && v >= y && within(target, 0, MOST_LIGHT) ? FINE : BAD_ARGUMENT;
    }

    private int faultOfNewLamp(int greatest, int least) {
        if (!within(greatest, 0, MOST_LIGHT) || !within(least, 0, MOST_LIGHT)) {
            return BAD_ARGUMENT;
        }
        return scene.lampCount < MOST_LAMPS ? FINE : BAD_STATE;
    }

    private int faultOfCorner(int n, int i, int x, int y) {
        if (!scene.hasLamp(n) || !within(i, 0, CORNERS - 1)) {
            return NO_INDEX;
        }
        boolean fits = within(x, LEAST_CORNER, MOST_CORNER) && within(y, LEAST_CORNER, MOST_CORNER);
        return fits ? FINE : BAD_ARGUMENT;
    }

    private int faultOfRectangle(int n, int x, int y, int u, int v) {
        if (!scene.hasLamp(n)) {
            return NO_INDEX;
        }
        boolean firstFits = within(x, LEAST_CORNER, MOST_CORNER - 1) && within(y, LEAST_CORNER, MOST_CORNER - 1);
        boolean lastFits = u > x && u <= MOST_CORNER && v > y && v <= MOST_CORNER;
        return firstFits && lastFits ? FINE : BAD_ARGUMENT;
    }

    private int faultOfLampValue(int n, int what, int value) {
        if (!scene.hasLamp(n)) {
            return NO_INDEX;
        }
        return within(what, 0, 2) && within(value, 0, what == 2 ? MOST_WEAR : MOST_LIGHT) ? FINE : BAD_ARGUMENT;
    }

    private int faultOfLamp(int n) {
        return scene.hasLamp(n) ? FINE : NO_INDEX;
    }

    private int faultOfPlace(int x, int y) {
        return scene.hasPlace(x, y) ? FINE : NO_INDEX;
    }

    private static int faultOfShift(int sx, int sy) {
        boolean fits = within(sx, -MOST_SHIFT, MOST_SHIFT) && within(sy, -MOST_SHIFT, MOST_SHIFT);
        return fits ? FINE : BAD_ARGUMENT;
    }

    private static int faultOfHours(int hours) {
        return faultOfRange(hours, 1, MOST_HOURS);
    }

    private static int faultOfRange(int value, int low, int high) {
        return within(value, low, high) ? FINE : BAD_ARGUMENT;
    }

    private static void refuseIndex(int fault) {
        if (fault == NO_INDEX) {
            throw new IndexOutOfBoundsException("there is no such lamp, corner or place");
        }
    }

    private static void refuseArgument(int fault) {
        if (fault == BAD_ARGUMENT) {
            throw new IllegalArgumentException("an argument is out of range");
        }
    }

    private static void refuseState(int fault) {
        if (fault == BAD_STATE) {
            throw new IllegalStateException("there is no room for more, or nothing to undo");
        }
    }

    private static boolean within(int value, int low, int high) {
        return value >= low && value <= high;
    }

    private static int cross(int ux, int uy, int vx, int vy) {
        return ux * vy - uy * vx;
    }

    /** A coordinate of the point of a place, from its column and sx, or from its row and sy. */
    private static int pointOf(int number, int shifted) {
        return 2 * (number + shifted) + 1;
    }

    private static boolean isIn(int n, int lamps) {
        return (lamps >> n & 1) == 1;
    }

    /** A row of numbers that is 0 beyond its ends, so that no index can fail. */
    private static final class Row {
        private final int[] cells;

        Row(int length) {
            cells = new int[length < 0 ? 0 : length];
        }

        int get(int index) {
            return index >= 0 && index < cells.length ? cells[index] : 0;
        }

        void set(int index, int value) {
            if (index >= 0 && index < cells.length) {
                cells[index] = value;
            }
        }

        void clear() {
            for (int i = 0; i < cells.length; i++) {
                cells[i] = 0;
            }
        }

        void copyFrom(Row other) {
            if (other != null) {
                for (int i = 0; i < cells.length && i < other.cells.length; i++) {
                    cells[i] = other.cells[i];
                }
            }
        }
    }

    /** All that undo restores: the wall, the lamps and the hours. */
    private static final class Scene {
        private int columns = 12;
        private int rows = 8;
        private int shiftX;
        private int shiftY;
        private int hours;
        private int lampCount;
        // Whether the survey has to be found anew.
        private boolean changed = true;
        private final Row targets = new Row(MOST_PLACES);
        private final Row greatest = new Row(MOST_LAMPS);
        private final Row least = new Row(MOST_LAMPS);
        private final Row wear = new Row(MOST_LAMPS);
        private final Row working = new Row(MOST_LAMPS);
        private final Row cornersX = new Row(CORNERS * MOST_LAMPS);
        private final Row cornersY = new Row(CORNERS * MOST_LAMPS);

        void copyFrom(Scene other) {
            if (other == null) {
                return;
            }
            columns = other.columns;
            rows = other.rows;
            shiftX = other.shiftX;
            shiftY = other.shiftY;
            hours = other.hours;
            lampCount = other.lampCount;
            targets.copyFrom(other.targets);
            greatest.copyFrom(other.greatest);
            least.copyFrom(other.least);
            wear.copyFrom(other.wear);
            working.copyFrom(other.working);
            cornersX.copyFrom(other.cornersX);
            cornersY.copyFrom(other.cornersY);
            changed = true;
        }

        void startWall(int newColumns, int newRows) {
            columns = newColumns;
            rows = newRows;
            shiftX = 0;
            shiftY = 0;
            targets.clear();
            changed = true;
        }

        int setTargets(int x, int y, int u, int v, int target) {
            int others = 0;
            for (int row = y; row <= v && row < MOST_ROWS; row++) {
                for (int column = x; column <= u && column < MOST_COLUMNS; column++) {
                    int p = indexOfPlace(column, row);
                    if (targets.get(p) != target) {
                        others++;
                    }
                    targets.set(p, target);
                }
            }
            changed = true;
            return others;
        }

        int hangLamp(int greatestLight, int leastLight) {
            int n = lampCount;
            lampCount++;
            greatest.set(n, greatestLight);
            least.set(n, leastLight);
            wear.set(n, 0);
            working.set(n, 1);
            for (int i = 0; i < CORNERS; i++) {
                moveCorner(n, i, 0, 0);
            }
            changed = true;
            return n;
        }

        void moveCorner(int n, int i, int x, int y) {
            cornersX.set(CORNERS * n + i, x);
            cornersY.set(CORNERS * n + i, y);
            changed = true;
        }

        void setLampValue(int n, int what, int value) {
            if (what == 0) {
                greatest.set(n, value);
            } else if (what == 1) {
                least.set(n, value);
            } else {
                wear.set(n, value);
            }
            changed = true;
        }

        void switchLamp(int n, boolean works) {
            working.set(n, works ? 1 : 0);
            changed = true;
        }

        void moveWall(int sx, int sy) {
            shiftX = sx;
            shiftY = sy;
            changed = true;
        }

        void wearOut(int n, int thousandths) {
            wear.set(n, Math.min(MOST_WEAR, wear.get(n) + thousandths));
            changed = true;
        }

        void countHours(int more) {
            hours += more;
        }

        boolean hasPlace(int x, int y) {
            return x >= 0 && x < columns && y >= 0 && y < rows;
        }

        boolean hasLamp(int n) {
            return n >= 0 && n < lampCount;
        }

        int placeCount() {
            return columns * rows;
        }

        int indexOfPlace(int x, int y) {
            return y * columns + x;
        }

        int targetAt(int p) {
            return targets.get(p);
        }

        int sumOfTargets() {
            int sum = 0;
            for (int p = 0; p < columns * rows; p++) {
                sum += targets.get(p);
            }
            return sum;
        }

        int cornerValue(int n, int i, int axis) {
            return axis == 0 ? cornersX.get(CORNERS * n + i) : cornersY.get(CORNERS * n + i);
        }

        boolean isWorking(int n) {
            return working.get(n) == 1;
        }

        int workingLamps() {
            int count = 0;
            for (int n = 0; n < lampCount; n++) {
                count += working.get(n);
            }
            return count;
        }

        int greatestWear() {
            int most = 0;
            for (int n = 0; n < lampCount; n++) {
                most = Math.max(most, wear.get(n));
            }
            return most;
        }

        int limitOf(int n) {
            return greatest.get(n) * (1000 - wear.get(n)) / 1000;
        }

        int floorOf(int n) {
            return Math.min(least.get(n), limitOf(n));
        }

        int sumOfLimits(int lamps) {
            int sum = 0;
            for (int n = 0; n < lampCount; n++) {
                sum += isIn(n, lamps) ? limitOf(n) : 0;
            }
            return sum;
        }

        int sumOfFloors(int lamps) {
            int sum = 0;
            for (int n = 0; n < lampCount; n++) {
                sum += isIn(n, lamps) ? floorOf(n) : 0;
            }
            return sum;
        }

        /** Looks at the corners undoubled: only signs count here, and doubling changes none. */
        boolean isGood(int n) {
            int area = 0;
            for (int i = 0; i < CORNERS; i++) {
                int at = CORNERS * n + i;
                int next = CORNERS * n + (i + 1) % CORNERS;
                int behind = CORNERS * n + (i + 2) % CORNERS;
                int x = cornersX.get(next);
                int y = cornersY.get(next);
                int turn = cross(x - cornersX.get(at), y - cornersY.get(at),
                        cornersX.get(behind) - x, cornersY.get(behind) - y);
                if (turn < 0) {
                    return false;
                }
                area += cross(cornersX.get(at), cornersY.get(at), x, y);
            }
            return area > 0;
        }

        /** The set of the lamps that work and whose quadrangle is good. */
        int shiningLamps() {
            int lamps = 0;
            for (int n = 0; n < lampCount; n++) {
                if (isWorking(n) && isGood(n)) {
                    lamps |= 1 << n;
                }
            }
            return lamps;
        }

        /** The weight of a shining lamp at a point; 0, which is no weight, if it does not cover the point. */
        int weightAt(int n, int pointX, int pointY) {
            int nearest = -1;
            for (int i = 0; i < CORNERS; i++) {
                int at = CORNERS * n + i;
                int next = CORNERS * n + (i + 1) % CORNERS;
                int wayX = 2 * (cornersX.get(next) - cornersX.get(at));
                int wayY = 2 * (cornersY.get(next) - cornersY.get(at));
                int height = cross(wayX, wayY, pointX - 2 * cornersX.get(at), pointY - 2 * cornersY.get(at));
                if (height < 0) {
                    return 0;
                }
                int length = Math.abs(wayX) + Math.abs(wayY);
                if (length > 0) {
                    int distance = height / length;
                    nearest = nearest < 0 ? distance : Math.min(nearest, distance);
                }
            }
            return 1 + nearest;
        }
    }

    /** Finds the lights at one place, in rows that are used again for the next. */
    private static final class Dimmer {
        private final Row limits = new Row(MOST_LAMPS);
        private final Row floors = new Row(MOST_LAMPS);
        private final Row weights = new Row(MOST_LAMPS);
        private final Row lights = new Row(MOST_LAMPS);
        private int shining;
        private int covering;
        private int brightness;
        private int state;

        /** Looks at what is the same at all places: which lamps shine, and how much light each can give. */
        void prepare(Scene scene, int lamps) {
            shining = lamps;
            for (int n = 0; n < MOST_LAMPS && scene != null; n++) {
                limits.set(n, scene.limitOf(n));
                floors.set(n, scene.floorOf(n));
            }
        }

        /** The places whose state is not 0 if only some lamps shone and the wall had some shift. */
        int countWrong(Scene scene, int lamps, int sx, int sy) {
            if (scene == null) {
                return 0;
            }
            prepare(scene, lamps);
            int count = 0;
            for (int y = 0; y < scene.rows; y++) {
                for (int x = 0; x < scene.columns; x++) {
                    int target = scene.targetAt(scene.indexOfPlace(x, y));
                    dimPoint(scene, pointOf(x, sx), pointOf(y, sy), target);
                    count += state == RIGHT ? 0 : 1;
                }
            }
            return count;
        }

        void dimPoint(Scene scene, int pointX, int pointY, int target) {
            covering = 0;
            for (int n = 0; n < MOST_LAMPS; n++) {
                int weight = scene != null && isIn(n, shining) ? scene.weightAt(n, pointX, pointY) : 0;
                weights.set(n, weight);
                lights.set(n, 0);
                covering |= weight > 0 ? 1 << n : 0;
            }
            shareOut(target);
            keepToLimits();
            balance(target);
            state = stateFor(target);
        }

        private void shareOut(int target) {
            int sum = 0;
            int heaviest = 0;
            for (int n = 0; n < MOST_LAMPS; n++) {
                sum += weights.get(n);
                heaviest = weights.get(n) > weights.get(heaviest) ? n : heaviest;
            }
            if (sum <= 0) {
                return;
            }
            int missing = target;
            for (int n = 0; n < MOST_LAMPS; n++) {
                int share = target * weights.get(n) / sum;
                lights.set(n, share);
                missing -= share;
            }
            lights.set(heaviest, lights.get(heaviest) + missing);
        }

        private void keepToLimits() {
            for (int n = 0; n < MOST_LAMPS; n++) {
                if (isIn(n, covering)) {
                    lights.set(n, Math.max(floors.get(n), Math.min(limits.get(n), lights.get(n))));
                }
            }
        }

        private void balance(int target) {
            int missing = target;
            for (int n = 0; n < MOST_LAMPS; n++) {
                missing -= lights.get(n);
            }
            for (int n = 0; n < MOST_LAMPS; n++) {
                if (isIn(n, covering)) {
                    int old = lights.get(n);
                    int more = missing > 0 ? Math.min(missing, limits.get(n) - old)
                            : Math.max(missing, floors.get(n) - old);
                    lights.set(n, old + more);
                    missing -= more;
                }
            }
            brightness = target - missing;
        }

        private int stateFor(int target) {
            if (brightness == target) {
                return RIGHT;
            }
            if (covering == 0) {
                return UNCOVERED;
            }
            return brightness < target ? TOO_DARK : TOO_BRIGHT;
        }
    }

    /** What the lamps of a scene do at each of its places, kept until the scene changes. */
    private static final class Survey {
        private final Dimmer dimmer = new Dimmer();
        private final Row lights = new Row(MOST_LAMPS * MOST_PLACES);
        private final Row covering = new Row(MOST_PLACES);
        private final Row brightness = new Row(MOST_PLACES);
        private final Row states = new Row(MOST_PLACES);
        private int places;

        void refresh(Scene scene) {
            if (scene == null || !scene.changed) {
                return;
            }
            dimmer.prepare(scene, scene.shiningLamps());
            places = 0;
            for (int y = 0; y < scene.rows; y++) {
                for (int x = 0; x < scene.columns; x++) {
                    dimmer.dimPoint(scene, pointOf(x, scene.shiftX), pointOf(y, scene.shiftY),
                            scene.targetAt(places));
                    keepPlace();
                }
            }
            scene.changed = false;
        }

        private void keepPlace() {
            covering.set(places, dimmer.covering);
            brightness.set(places, dimmer.brightness);
            states.set(places, dimmer.state);
            for (int n = 0; n < MOST_LAMPS; n++) {
                lights.set(MOST_PLACES * n + places, dimmer.lights.get(n));
            }
            places++;
        }

        int coveringAt(int p) {
            return covering.get(p);
        }

        int brightnessAt(int p) {
            return brightness.get(p);
        }

        int stateAt(int p) {
            return states.get(p);
        }

        boolean isCovered(int n, int p) {
            return isIn(n, covering.get(p));
        }

        int lightOf(int n, int p) {
            return isCovered(n, p) ? lights.get(MOST_PLACES * n + p) : NONE;
        }

        int placesOf(int n) {
            int count = 0;
            for (int p = 0; p < places; p++) {
                count += isCovered(n, p) ? 1 : 0;
            }
            return count;
        }

        int placesOnlyOf(int n) {
            int count = 0;
            for (int p = 0; p < places; p++) {
                count += covering.get(p) == 1 << n ? 1 : 0;
            }
            return count;
        }

        int placesOfSeveral() {
            int count = 0;
            for (int p = 0; p < places; p++) {
                count += Integer.bitCount(covering.get(p)) >= 2 ? 1 : 0;
            }
            return count;
        }

        int placesInState(int state) {
            int count = 0;
            for (int p = 0; p < places; p++) {
                count += states.get(p) == state ? 1 : 0;
            }
            return count;
        }

        int wrongPlaces() {
            return places - placesInState(RIGHT);
        }

        int sumOfBrightness() {
            int sum = 0;
            for (int p = 0; p < places; p++) {
                sum += brightness.get(p);
            }
            return sum;
        }

        int sumOfLights(int n) {
            int sum = 0;
            for (int p = 0; p < places; p++) {
                sum += isCovered(n, p) ? lights.get(MOST_PLACES * n + p) : 0;
            }
            return sum;
        }

        int greatestLightOf(int n) {
            int most = 0;
            for (int p = 0; p < places; p++) {
                most = isCovered(n, p) ? Math.max(most, lights.get(MOST_PLACES * n + p)) : most;
            }
            return most;
        }

        int loadOf(int n, int limit) {
            int full = placesOf(n) * limit;
            return full > 0 ? 100 * sumOfLights(n) / full : 0;
        }
    }

    /** The latest saved scenes, in a ring. */
    private static final class History {
        private final Scene[] saved = new Scene[MOST_SAVED];
        private int latest;
        private int count;

        History() {
            for (int i = 0; i < saved.length; i++) {
                saved[i] = new Scene();
            }
        }

        void save(Scene now) {
            latest = (latest + 1) % MOST_SAVED;
            Scene slot = latestSlot();
            if (slot != null) {
                slot.copyFrom(now);
            }
            count = Math.min(count + 1, MOST_SAVED);
        }

        void restore(Scene now) {
            if (now == null || count <= 0) {
                return;
            }
            now.copyFrom(latestSlot());
            latest = (latest + MOST_SAVED - 1) % MOST_SAVED;
            count--;
        }

        private Scene latestSlot() {
            return latest >= 0 && latest < saved.length ? saved[latest] : null;
        }
    }

    /** The command text, and a reader that goes through it command by command. */
    private static final class CommandText {
        // Behind the end of the text it holds 0, a byte that can stand nowhere: so the end is a fault like another.
        private final Row bytes = new Row(MOST_BYTES);
        private final Row numbers = new Row(MOST_NUMBERS);
        private int length;
        private int position;
        private int fault = NONE;
        private int word = NO_WORD;

        int append(int value) {
            bytes.set(length, value);
            length++;
            return length;
        }

        int empty() {
            int before = length;
            length = 0;
            bytes.clear();
            return before;
        }

        void rewind() {
            position = 0;
            fault = NONE;
        }

        /** The fault of the text; below 0 if it has none. */
        int findFault() {
            rewind();
            for (int i = 0; i < MOST_BYTES; i++) {
                if (!readCommand()) {
                    break;
                }
            }
            return fault;
        }

        /** Reads the next command; false at the end of the text and at a fault. */
        boolean readCommand() {
            skipSpaces();
            if (position >= length || !readWord()) {
                return false;
            }
            numbers.clear();
            for (int i = 0; i < numbersOf(word); i++) {
                if (!readNumber(i)) {
                    return false;
                }
            }
            skipSpaces();
            if (bytes.get(position) != ';') {
                return failAt(position);
            }
            position++;
            return true;
        }

        int number(int i) {
            return numbers.get(i);
        }

        private boolean readWord() {
            int start = position;
            while (position < length && within(bytes.get(position), 'a', 'z')) {
                position++;
            }
            word = wordBetween(start, position);
            return word != NO_WORD || failAt(start);
        }

        private boolean readNumber(int i) {
            if (bytes.get(position) != ' ') {
                return failAt(position);
            }
            skipSpaces();
            boolean negative = bytes.get(position) == '-';
            if (negative) {
                position++;
            }
            if (!isDigit(bytes.get(position))) {
                return failAt(position);
            }
            int value = 0;
            for (int digits = 0; digits < MOST_DIGITS && isDigit(bytes.get(position)); digits++) {
                value = 10 * value + bytes.get(position) - '0';
                position++;
            }
            numbers.set(i, negative ? -value : value);
            return true;
        }

        private void skipSpaces() {
            while (position < length && bytes.get(position) == ' ') {
                position++;
            }
        }

        /** Always false, for the reading method that fails. */
        private boolean failAt(int index) {
            fault = index;
            return false;
        }

        private static boolean isDigit(int value) {
            return within(value, '0', '9');
        }

        private int wordBetween(int start, int end) {
            if (isWord("wall", start, end)) {
                return WALL;
            }
            if (isWord("paint", start, end)) {
                return PAINT;
            }
            if (isWord("lamp", start, end)) {
                return LAMP;
            }
            if (isWord("corner", start, end)) {
                return CORNER;
            }
            if (isWord("shift", start, end)) {
                return SHIFT;
            }
            if (isWord("fail", start, end)) {
                return FAIL;
            }
            if (isWord("mend", start, end)) {
                return MEND;
            }
            return isWord("burn", start, end) ? BURN : NO_WORD;
        }

        private boolean isWord(String letters, int start, int end) {
            if (letters == null || letters.length() != end - start) {
                return false;
            }
            for (int i = 0; i < letters.length(); i++) {
                if (bytes.get(start + i) != letters.charAt(i)) {
                    return false;
                }
            }
            return true;
        }

        private static int numbersOf(int word) {
            switch (word) {
                case PAINT:
                    return 5;
                case CORNER:
                    return 4;
                case WALL:
                case LAMP:
                case SHIFT:
                    return 2;
                default:
                    return 1;
            }
        }
    }
}
