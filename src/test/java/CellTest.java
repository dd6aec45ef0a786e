/** Promises 11 to 14: cells, ranks, same points and what prints. */
public final class CellTest {
    private static final Due DUE = new Due();

    public static void main(String[] args) {
        wrongCells();
        smallCells();
        everyCell();
        farPoints();
        wrongPoints();
        prints();
        printsByTheCurve();
        printsOnTheWholePage();
        wrongPrints();
        DUE.end();
    }

    private static SeparateScreens withCell(int a, int b) {
        SeparateScreens s = new SeparateScreens(16, 12);
        s.cell(a, b);
        return s;
    }

    private static void wrongCells() {
        SeparateScreens s = new SeparateScreens(1, 1);
        int[][] wrong = {{-1, 0}, {13, 0}, {0, 13}, {0, -13}, {Integer.MIN_VALUE, 1}, {1, Integer.MIN_VALUE}};
        for (int[] w : wrong) {
            DUE.fails("cell " + w[0] + " " + w[1], Due.ARGUMENT, () -> s.cell(w[0], w[1]));
        }
        DUE.fails("no size", Due.ARITHMETIC, () -> s.cell(0, 0));
        int[][] right = {{0, 1}, {0, -12}, {12, 12}, {12, -12}, {12, 0}, {1, 1}};
        for (int i = 0; i < right.length; i++) {
            DUE.is("cell", s.cell(right[i][0], right[i][1]), i);
        }
        DUE.fails("a seventh", Due.UNSUPPORTED, () -> s.cell(1, 0));
        DUE.fails("a seventh of no size", Due.ARITHMETIC, () -> s.cell(0, 0));
        DUE.fails("a wrong seventh", Due.ARGUMENT, () -> s.cell(13, 0));
        DUE.is("a cell of 288", s.rank(2, -1), 288);
        DUE.is("a cell of one", s.rank(0, -1), 1);
        DUE.is("the rank of one", s.rank(0, 0), 0);
    }

    private static void ranks(int a, int b, int... due) {
        SeparateScreens s = withCell(a, b);
        DUE.is("N of " + a + " " + b, s.rank(0, -1), due.length);
        for (int i = 0; i < due.length; i++) {
            DUE.is("rank of " + i + " of " + a + " " + b, s.rank(0, i), due[i]);
        }
        DUE.fails("rank behind", Due.INDEX, () -> s.rank(0, due.length));
        DUE.fails("rank -2", Due.INDEX, () -> s.rank(0, -2));
        DUE.fails("rank far behind", Due.INDEX, () -> s.rank(0, Integer.MAX_VALUE));
        DUE.fails("no cell 1", Due.INDEX, () -> s.rank(1, 0));
        DUE.fails("no cell -1", Due.INDEX, () -> s.rank(-1, -1));
    }

    private static void smallCells() {
        ranks(0, 1, 0);
        ranks(1, 1, 0, 1);
        ranks(2, 1, 0, 1, 2, 3, 4);
        ranks(2, 2, 0, 1, 7, 2, 3, 5, 4, 6);
        ranks(0, 2, 0, 1, 2, 3);
        ranks(3, 0, 0, 1, 2, 3, 5, 6, 4, 7, 8);
        SeparateScreens s = withCell(2, 1);
        DUE.is("below the first", s.same(0, 0, 1), 3);
        DUE.is("above the first", s.same(0, 0, -1), 2);
        SeparateScreens mirrored = withCell(2, -1);
        DUE.is("below the first, mirrored", mirrored.same(0, 0, 1), 2);
    }

    /** Whether so many of the steps (a, b) and (-b, a) lead this way: both counts must be whole. */
    private static boolean leads(int a, int b, long dx, long dy) {
        int n = a * a + b * b;
        return (a * dx + b * dy) % n == 0 && (a * dy - b * dx) % n == 0;
    }

    private static int divisor(int a, int b) {
        return b == 0 ? a : divisor(b, a % b);
    }

    private static void everyCell() {
        for (int a = 0; a <= 12; a++) {
            for (int b = -12; b <= 12; b++) {
                if (a != 0 || b != 0) {
                    wholeCell(a, b);
                }
            }
        }
    }

    /** A new object for each part: none is asked more than 512 times. */
    private static void wholeCell(int a, int b) {
        ranksOfCell(a, b, sizesOfCell(a, b));
        pointsAround(a, b);
    }

    private static int breadthOf(int a, int b) {
        return (a * a + b * b) / divisor(a, Math.abs(b));
    }

    private static int[] sizesOfCell(int a, int b) {
        SeparateScreens s = withCell(a, b);
        int[] sizes = new int[a * a + b * b];
        int breadth = breadthOf(a, b);
        for (int i = 0; i < sizes.length; i++) {
            sizes[i] = leastSize(a, b, i % breadth, i / breadth);
            DUE.is("cell " + a + " " + b + " point " + i, s.same(0, i % breadth, i / breadth), i);
        }
        return sizes;
    }

    private static void ranksOfCell(int a, int b, int[] sizes) {
        SeparateScreens s = withCell(a, b);
        DUE.is("cell " + a + " " + b, s.rank(0, -1), sizes.length);
        for (int i = 0; i < sizes.length; i++) {
            int before = 0;
            for (int j = 0; j < sizes.length; j++) {
                if (sizes[j] < sizes[i] || sizes[j] == sizes[i] && j < i) {
                    before++;
                }
            }
            DUE.is("cell " + a + " " + b + " rank of " + i, s.rank(0, i), before);
        }
    }

    private static void pointsAround(int a, int b) {
        SeparateScreens s = withCell(a, b);
        int breadth = breadthOf(a, b);
        for (int y = -20; y <= 20; y += 3) {
            for (int x = -20; x <= 20; x += 3) {
                int number = s.same(0, x, y);
                DUE.is("cell " + a + " " + b + " same as " + x + " " + y, number >= 0 && number < a * a + b * b
                    && leads(a, b, x - number % breadth, y - number / breadth) ? 1 : 0, 1);
            }
        }
    }

    /** By the steps themselves, and more of them than can be needed. */
    private static int leastSize(int a, int b, int x, int y) {
        int least = Integer.MAX_VALUE;
        for (int i = -30; i <= 30; i++) {
            for (int j = -30; j <= 30; j++) {
                int u = x + i * a - j * b;
                int v = y + i * b + j * a;
                least = Math.min(least, u * u + v * v);
            }
        }
        return least;
    }

    private static void farPoints() {
        int[] far = {-1000000, -999999, 999999, 1000000};
        int[][] cells = {{12, 12}, {12, -11}, {11, 12}, {0, 12}, {7, 0}, {8, -6}};
        for (int[] c : cells) {
            SeparateScreens s = withCell(c[0], c[1]);
            int n = s.rank(0, -1);
            int breadth = n / divisor(c[0], Math.abs(c[1]));
            for (int x : far) {
                for (int y : far) {
                    int number = s.same(0, x, y);
                    DUE.is("far point", number >= 0 && number < n
                        && leads(c[0], c[1], x - number % breadth, y - number / breadth) ? 1 : 0, 1);
                }
            }
        }
    }

    private static void wrongPoints() {
        SeparateScreens s = withCell(3, 1);
        DUE.fails("x too great", Due.ARGUMENT, () -> s.same(0, 1000001, 0));
        DUE.fails("x too small", Due.ARGUMENT, () -> s.same(0, -1000001, 0));
        DUE.fails("y too great", Due.ARGUMENT, () -> s.same(0, 0, 1000001));
        DUE.fails("y too small", Due.ARGUMENT, () -> s.same(0, 0, Integer.MIN_VALUE));
        DUE.fails("no cell", Due.INDEX, () -> s.same(1, 0, 0));
        DUE.fails("cell -1", Due.INDEX, () -> s.same(-1, 0, 0));
        DUE.fails("no cell, and x too great", Due.INDEX, () -> s.same(1, 1000001, 0));
    }

    private static int printed(SeparateScreens s, int value, int x, int y) {
        s.colour(1, value);
        s.paint(x, y, x, y, false);
        return s.prints(0, 1, x, y) ? 1 : 0;
    }

    private static void prints() {
        SeparateScreens s = withCell(1, 1);
        DUE.is("0 prints nowhere", printed(s, 0, 0, 0), 0);
        DUE.is("63 of two", printed(s, 63, 0, 0), 0);
        DUE.is("64 of two", printed(s, 64, 0, 0), 1);
        DUE.is("64 of two, the other", printed(s, 64, 1, 0), 0);
        DUE.is("64 of two, the same", printed(s, 64, 1, 1), 1);
        DUE.is("191 of two, the other", printed(s, 191, 0, 1), 0);
        DUE.is("192 of two, the other", printed(s, 192, 0, 1), 1);
        DUE.is("255 prints", printed(s, 255, 2, 1), 1);
    }

    private static void printsByTheCurve() {
        SeparateScreens s = withCell(1, 1);
        s.gain(63, 64);
        DUE.is("63 becomes 64", printed(s, 63, 0, 0), 1);
        s.gain(0, 255);
        DUE.is("0 becomes 255", printed(s, 0, 1, 0), 1);
        s.gain(255, 0);
        DUE.is("255 becomes 0", printed(s, 255, 0, 0), 0);
    }

    private static void printsOnTheWholePage() {
        SeparateScreens s = withCell(4, 3);
        s.colour(0, 128);
        s.paint(0, 0, 15, 11, false);
        int bound = (128 * 25 + 127) / 255;
        SeparateScreens other = withCell(4, 3);
        for (int y = 0; y < 12; y++) {
            for (int x = 0; x < 16; x++) {
                int due = other.rank(0, other.same(0, x, y)) < bound ? 1 : 0;
                DUE.is("prints at " + x + " " + y, s.prints(0, 0, x, y) ? 1 : 0, due);
            }
        }
    }

    private static void wrongPrints() {
        SeparateScreens s = withCell(4, 3);
        int[][] wrong = {{1, 0, 0, 0}, {-1, 0, 0, 0}, {0, 4, 0, 0}, {0, -1, 0, 0}, {0, 0, 16, 0}, {0, 0, -1, 0},
            {0, 0, 0, 12}, {0, 0, 0, -1}};
        for (int[] w : wrong) {
            DUE.fails("prints " + w[0] + " " + w[1] + " " + w[2] + " " + w[3], Due.INDEX,
                () -> s.prints(w[0], w[1], w[2], w[3]) ? 1 : 0);
        }
    }
}
