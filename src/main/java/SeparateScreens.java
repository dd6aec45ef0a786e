/**
 * A page parted into plates, one for each ink, with traps, a gain curve and screens of cells.
 * The face checks every argument and throws; the classes inside trust what the face hands them.
 */
public final class SeparateScreens {
    private static final int MOST_COLUMNS = 16;
    private static final int MOST_ROWS = 12;
    private static final int MOST_INKS = 8;
    private static final int MOST_CELLS = 6;
    private static final int MOST_STEP = 12;
    private static final int MOST_SUM = 2040;
    private static final int MOST_REACH = 3;
    private static final int BANDS = 3;
    private static final int FULL = 255;
    private static final int BLACK = 3;
    private static final int FARTHEST = 1000000;

    private final Page page;
    private final Curve curve;
    private final Cell[] cells;
    private int cellCount;

    public SeparateScreens(int width, int height) {
        int columns = Math.max(1, Math.min(MOST_COLUMNS, width));
        int rows = Math.max(1, Math.min(MOST_ROWS, height));
        page = new Page(columns, rows);
        curve = new Curve();
        cells = new Cell[MOST_CELLS];
        cellCount = 0;
    }

    public int ink(int a, int b, int c, int d) throws IllegalArgumentException, UnsupportedOperationException {
        if (!isByte(a) || !isByte(b) || !isByte(c) || !isByte(d)) {
            throw new IllegalArgumentException("a mix is of bytes");
        }
        if (page.inks.count >= MOST_INKS) {
            throw new UnsupportedOperationException("there are 8 inks");
        }
        return page.inks.addMix(a, b, c, d);
    }

    public void colour(int ink, int v) throws IllegalArgumentException, ArrayIndexOutOfBoundsException {
        if (v < -1 || v > FULL) {
            throw new IllegalArgumentException("a colour has a byte of an ink, or -1");
        }
        checkInk(ink);
        page.inks.colour[ink] = v;
    }

    public int paint(int x, int y, int x2, int y2, boolean over) {
        int left = Math.max(0, x);
        int right = Math.min(page.columns - 1, x2);
        int top = Math.max(0, y);
        int bottom = Math.min(page.rows - 1, y2);
        int painted = 0;
        for (int row = top; row <= bottom; row++) {
            for (int column = left; column <= right; column++) {
                page.paintPoint(column + page.columns * row, over);
                painted++;
            }
        }
        return painted;
    }

    public int limit(int sum) throws IllegalArgumentException {
        if (sum < 0 || sum > MOST_SUM) {
            throw new IllegalArgumentException("a limit is 0 to 2040");
        }
        int before = page.mostInk;
        page.mostInk = sum;
        return before;
    }

    public int plate(int ink, int x, int y, int way) throws IllegalArgumentException, ArrayIndexOutOfBoundsException {
        if (way < 0 || way > 3) {
            throw new IllegalArgumentException("a way is 0 to 3");
        }
        checkInk(ink);
        checkPoint(x, y);
        int lends = way % 2 == 1 ? page.lenderOf(x, y) : -1;
        int value = page.byteWith(ink, x + page.columns * y, lends);
        return way >= 2 ? curve.bent(value) : value;
    }

    public int seen(int x, int y, int band, boolean trap) throws ArrayIndexOutOfBoundsException {
        checkPoint(x, y);
        if (band < 0 || band >= BANDS) {
            throw new ArrayIndexOutOfBoundsException("there is no such band");
        }
        int lends = trap ? page.lenderOf(x, y) : -1;
        return page.bandOf(band, x + page.columns * y, lends);
    }

    public int lender(int x, int y) throws ArrayIndexOutOfBoundsException {
        checkPoint(x, y);
        return page.lenderOf(x, y);
    }

    public int width(int w) throws IllegalArgumentException {
        if (w < 0 || w > MOST_REACH) {
            throw new IllegalArgumentException("a trap's width is 0 to 3");
        }
        int before = page.reach;
        page.reach = w;
        return before;
    }

    public void gain(int v, int w) throws IllegalArgumentException, UnsupportedOperationException {
        if (!isByte(v) || !isByte(w)) {
            throw new IllegalArgumentException("a curve's point is of bytes");
        }
        if (!curve.hasRoomFor(v)) {
            throw new UnsupportedOperationException("the curve has 12 points");
        }
        curve.put(v, w);
    }

    public int cell(int a, int b) throws IllegalArgumentException, ArithmeticException, UnsupportedOperationException {
        if (a < 0 || a > MOST_STEP || b < -MOST_STEP || b > MOST_STEP) {
            throw new IllegalArgumentException("a cell is of 0 to 12 and -12 to 12");
        }
        if (a == 0 && b == 0) {
            throw new ArithmeticException("a cell of no size");
        }
        if (cellCount >= MOST_CELLS) {
            throw new UnsupportedOperationException("there are 6 cells");
        }
        cells[cellCount] = new Cell(a, b);
        cellCount++;
        return cellCount - 1;
    }

    public int rank(int cell, int i) throws ArrayIndexOutOfBoundsException {
        Cell screen = checkedCell(cell);
        if (i < -1 || i >= screen.ranks.length) {
            throw new ArrayIndexOutOfBoundsException("there is no such point of the cell");
        }
        return i == -1 ? screen.ranks.length : screen.ranks[i];
    }

    public int same(int cell, int x, int y) throws ArrayIndexOutOfBoundsException, IllegalArgumentException {
        Cell screen = checkedCell(cell);
        if (isTooFar(x) || isTooFar(y)) {
            throw new IllegalArgumentException("a point is -1000000 to 1000000 away");
        }
        return screen.numberOf(x, y);
    }

    public boolean prints(int cell, int ink, int x, int y) throws ArrayIndexOutOfBoundsException {
        Cell screen = checkedCell(cell);
        checkInk(ink);
        checkPoint(x, y);
        int value = curve.bent(page.byteAt(ink, x + page.columns * y));
        return screen.takes(value, x, y);
    }

    public long covered(int ink) throws ArrayIndexOutOfBoundsException {
        checkInk(ink);
        long sum = 0;
        for (int point = 0; point < page.points; point++) {
            sum += page.byteAt(ink, point);
        }
        return sum;
    }

    public int packed(int ink, int i) throws ArrayIndexOutOfBoundsException {
        checkInk(ink);
        if (i == -1) {
            return 2 * page.countRuns(ink);
        }
        int start = i < 0 ? -1 : page.startOfRun(ink, i / 2);
        if (start < 0) {
            throw new ArrayIndexOutOfBoundsException("there is no such packed byte");
        }
        return i % 2 == 0 ? page.lengthOfRun(ink, start) : page.byteAt(ink, start);
    }

    private static boolean isByte(int value) {
        return value >= 0 && value <= FULL;
    }

    private static boolean isTooFar(int place) {
        return place < -FARTHEST || place > FARTHEST;
    }

    private void checkInk(int ink) {
        if (ink < 0 || ink >= page.inks.count) {
            throw new ArrayIndexOutOfBoundsException("there is no such ink");
        }
    }

    private void checkPoint(int x, int y) {
        if (x < 0 || x >= page.columns || y < 0 || y >= page.rows) {
            throw new ArrayIndexOutOfBoundsException("there is no such point");
        }
    }

    private Cell checkedCell(int number) {
        Cell screen = number < 0 || number >= cellCount ? null : cells[number];
        if (screen == null) {
            throw new ArrayIndexOutOfBoundsException("there is no such cell");
        }
        return screen;
    }

    /** The inks' mixes, and the colour that is painted with. */
    private static final class Inks {
        private static final int MIX = 4;

        private final int[] mixes = new int[MOST_INKS * MIX];
        final int[] colour = new int[MOST_INKS];
        int count;

        Inks() {
            for (int ink = 0; ink < MOST_INKS; ink++) {
                colour[ink] = -1;
            }
            for (int ink = 0; ink < MIX; ink++) {
                mixes[ink * MIX + ink] = FULL;
            }
            count = MIX;
        }

        int addMix(int a, int b, int c, int d) {
            int first = count * MIX;
            mixes[first] = a;
            mixes[first + 1] = b;
            mixes[first + 2] = c;
            mixes[first + 3] = d;
            count++;
            return count - 1;
        }

        int strength(int ink, int band) {
            return Math.min(FULL, mixes[ink * MIX + band] + mixes[ink * MIX + BLACK]);
        }
    }

    /** The plates, what is painted on them, and what is seen and trapped there. A lender of -1 is none. */
    private static final class Page {
        private static final int WHOLE = FULL * FULL;
        private static final int HALF = WHOLE / 2;
        private static final int MARKED = 25;

        final int columns;
        final int rows;
        final int points;
        final Inks inks = new Inks();
        private final int[] plates;
        int mostInk = MOST_SUM;
        int reach = 1;

        Page(int columns, int rows) {
            this.columns = columns;
            this.rows = rows;
            points = columns * rows;
            plates = new int[MOST_INKS * points];
        }

        int byteAt(int ink, int point) {
            return plates[ink * points + point];
        }

        int byteWith(int ink, int point, int lends) {
            int own = byteAt(ink, point);
            return lends < 0 ? own : Math.max(own, byteAt(ink, lends));
        }

        void paintPoint(int point, boolean over) {
            for (int ink = 0; ink < inks.count; ink++) {
                int value = inks.colour[ink];
                if (value >= 0) {
                    plates[ink * points + point] = value;
                } else if (!over) {
                    plates[ink * points + point] = 0;
                }
            }
            int excess = sumAt(point) - mostInk;
            if (excess > 0) {
                moveToBlack(point, excess);
                shrinkToLimit(point);
            }
        }

        private int sumAt(int point) {
            int sum = 0;
            for (int ink = 0; ink < inks.count; ink++) {
                sum += byteAt(ink, point);
            }
            return sum;
        }

        private void moveToBlack(int point, int excess) {
            int moved = Math.min((excess + 1) / 2, FULL - byteAt(BLACK, point));
            for (int ink = 0; ink < BLACK; ink++) {
                moved = Math.min(moved, byteAt(ink, point));
            }
            for (int ink = 0; ink < BLACK; ink++) {
                plates[ink * points + point] -= moved;
            }
            plates[BLACK * points + point] += moved;
        }

        private void shrinkToLimit(int point) {
            int sum = sumAt(point);
            if (sum <= mostInk) {
                return;
            }
            int black = byteAt(BLACK, point);
            int room = Math.max(0, mostInk - black);
            int others = sum - black;
            for (int ink = 0; ink < inks.count; ink++) {
                if (ink != BLACK && others > 0) {
                    plates[ink * points + point] = byteAt(ink, point) * room / others;
                }
            }
            plates[BLACK * points + point] = Math.min(black, mostInk);
        }

        int bandOf(int band, int point, int lends) {
            int light = FULL;
            for (int ink = 0; ink < inks.count; ink++) {
                int taken = byteWith(ink, point, lends) * inks.strength(ink, band);
                light = (light * (WHOLE - taken) + HALF) / WHOLE;
            }
            return light;
        }

        private int lightness(int point) {
            return (30 * bandOf(0, point, -1) + 59 * bandOf(1, point, -1) + 11 * bandOf(2, point, -1)) / 100;
        }

        private boolean unlike(int one, int other) {
            boolean oneMarked = false;
            boolean otherMarked = false;
            for (int ink = 0; ink < inks.count; ink++) {
                boolean inOne = byteAt(ink, one) >= MARKED;
                boolean inOther = byteAt(ink, other) >= MARKED;
                if (inOne && inOther) {
                    return false;
                }
                oneMarked = oneMarked || inOne;
                otherMarked = otherMarked || inOther;
            }
            return oneMarked && otherMarked;
        }

        int lenderOf(int x, int y) {
            int point = x + columns * y;
            int own = lightness(point);
            int best = -1;
            int bestFar = Integer.MAX_VALUE;
            // Rows from the top and columns from the left: of points as far away the first found stays.
            for (int row = Math.max(0, y - reach); row <= Math.min(rows - 1, y + reach); row++) {
                for (int column = Math.max(0, x - reach); column <= Math.min(columns - 1, x + reach); column++) {
                    int other = column + columns * row;
                    int far = (column - x) * (column - x) + (row - y) * (row - y);
                    if (far < bestFar && unlike(point, other) && lightness(other) > own) {
                        best = other;
                        bestFar = far;
                    }
                }
            }
            return best;
        }

        private boolean startsRun(int ink, int point) {
            return point % columns == 0 || byteAt(ink, point) != byteAt(ink, point - 1);
        }

        int countRuns(int ink) {
            int runs = 0;
            for (int point = 0; point < points; point++) {
                if (startsRun(ink, point)) {
                    runs++;
                }
            }
            return runs;
        }

        int startOfRun(int ink, int number) {
            int runs = 0;
            for (int point = 0; point < points; point++) {
                if (startsRun(ink, point)) {
                    if (runs == number) {
                        return point;
                    }
                    runs++;
                }
            }
            return -1;
        }

        int lengthOfRun(int ink, int start) {
            int end = start + 1;
            while (end < points && !startsRun(ink, end)) {
                end++;
            }
            return end - start;
        }
    }

    /** What dots gain: points by rising place; the first is always for 0 and the last for 255. */
    private static final class Curve {
        private static final int MOST_POINTS = 12;

        private final int[] places = new int[MOST_POINTS];
        private final int[] values = new int[MOST_POINTS];
        private int count;

        Curve() {
            places[1] = FULL;
            values[1] = FULL;
            count = 2;
        }

        /** The last point is for 255, so no byte lies behind it. */
        private int firstFrom(int place) {
            int at = 0;
            while (at < count - 1 && places[at] < place) {
                at++;
            }
            return at;
        }

        boolean hasRoomFor(int place) {
            return count < MOST_POINTS || places[firstFrom(place)] == place;
        }

        void put(int place, int value) {
            int at = firstFrom(place);
            if (places[at] != place) {
                for (int i = count; i > at; i--) {
                    places[i] = places[i - 1];
                    values[i] = values[i - 1];
                }
                count++;
            }
            places[at] = place;
            values[at] = value;
        }

        int bent(int value) {
            int at = Math.max(1, firstFrom(value));
            int span = places[at] - places[at - 1];
            int rise = values[at] - values[at - 1];
            return span <= 0 ? values[at] : values[at - 1] + rise * (value - places[at - 1]) / span;
        }
    }

    /** A piece that repeats by (a, b) and (-b, a). Its points fill depth rows of breadth columns. */
    private static final class Cell {
        private static final int LARGEST = 2 * MOST_STEP * MOST_STEP;

        private final int depth;
        private final int breadth;
        private final int slant;
        final int[] ranks;

        Cell(int a, int b) {
            depth = commonDivisor(a, b);
            breadth = Math.max(1, (a * a + b * b) / depth);
            slant = Math.floorMod(sideways(a, b, depth), breadth);
            ranks = new int[depth * breadth];
            rankBySize(leastSizes());
        }

        private static int commonDivisor(int a, int b) {
            for (int divisor = MOST_STEP; divisor > 1; divisor--) {
                if (a % divisor == 0 && b % divisor == 0) {
                    return divisor;
                }
            }
            return 1;
        }

        /** How far to the right those steps lead that lead just so many rows down. */
        private static int sideways(int a, int b, int down) {
            for (int i = -MOST_STEP; i <= MOST_STEP; i++) {
                for (int j = -MOST_STEP; j <= MOST_STEP; j++) {
                    if (b * i + a * j == down) {
                        return a * i - b * j;
                    }
                }
            }
            return 0;
        }

        int numberOf(int x, int y) {
            int steps = Math.floorDiv(y, depth);
            return Math.floorMod(x - steps * slant, breadth) + (y - steps * depth) * breadth;
        }

        /** No point is farther than half a cell's diagonal, 12 at most, from one that is the same as (0, 0). */
        private int[] leastSizes() {
            int[] sizes = new int[ranks.length];
            for (int i = 0; i < sizes.length; i++) {
                sizes[i] = LARGEST;
            }
            for (int y = -MOST_STEP; y <= MOST_STEP; y++) {
                for (int x = -MOST_STEP; x <= MOST_STEP; x++) {
                    int number = numberOf(x, y);
                    sizes[number] = Math.min(sizes[number], x * x + y * y);
                }
            }
            return sizes;
        }

        /** Counts first, so that points of one size get their ranks by number. */
        private void rankBySize(int[] sizes) {
            int[] next = new int[LARGEST + 2];
            for (int size : sizes) {
                next[size + 1]++;
            }
            for (int size = 1; size <= LARGEST; size++) {
                next[size] += next[size - 1];
            }
            for (int i = 0; i < sizes.length; i++) {
                ranks[i] = next[sizes[i]];
                next[sizes[i]]++;
            }
        }

        boolean takes(int value, int x, int y) {
            return ranks[numberOf(x, y)] < (value * ranks.length + 127) / FULL;
        }
    }
}
