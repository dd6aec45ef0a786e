/** The edges of promises 11 to 14: which cells there are, their points, same points far away, and what prints. */
public final class CellEdgeTest {
    private static final int LEAST = Integer.MIN_VALUE;
    private static final int MOST = Integer.MAX_VALUE;
    private static final Due DUE = new Due();

    public static void main(String[] args) {
        stepsAcross();
        stepsDown();
        noSize();
        sixthCell();
        seventhCell();
        smallestCells();
        largestCells();
        numbersOfPoints();
        wrapAround();
        sizesBeforeNumbers();
        ranksOfNoPoint();
        cellsOfRanks();
        farthestPoints();
        tooFar();
        noCellAndTooFar();
        byte0AndByte255();
        cellOfOnePoint();
        cellOfTwoPoints();
        cellOf288Points();
        printsByWay2();
        printsAtEdges();
        printsOfTheLastInkAndCell();
        printsOfNothing();
        DUE.end();
    }

    private static SeparateScreens withCell(int a, int b) {
        SeparateScreens s = new SeparateScreens(16, 12);
        DUE.is("cell " + a + " " + b, s.cell(a, b), 0);
        return s;
    }

    /** "IllegalArgumentException when a is not 0 .. 12". */
    private static void stepsAcross() {
        DUE.is("a 0", withCell(0, 5).rank(0, -1), 25);
        DUE.is("a 12", withCell(12, 5).rank(0, -1), 169);
        SeparateScreens s = new SeparateScreens(1, 1);
        for (int no : new int[] {-1, 13, LEAST, MOST}) {
            DUE.fails("a " + no, Due.ARGUMENT, () -> s.cell(no, 5));
            DUE.fails("a " + no + ", b 0", Due.ARGUMENT, () -> s.cell(no, 0));
        }
        DUE.is("the first that is right", s.cell(1, 5), 0);
    }

    /** "or b is not -12 .. 12". */
    private static void stepsDown() {
        DUE.is("b -12", withCell(5, -12).rank(0, -1), 169);
        DUE.is("b 12", withCell(5, 12).rank(0, -1), 169);
        SeparateScreens s = new SeparateScreens(1, 1);
        for (int no : new int[] {-13, 13, LEAST, MOST}) {
            DUE.fails("b " + no, Due.ARGUMENT, () -> s.cell(5, no));
            DUE.fails("b " + no + ", a 0", Due.ARGUMENT, () -> s.cell(0, no));
        }
        DUE.is("the first that is right", s.cell(5, 1), 0);
    }

    /** "ArithmeticException (0, 0)", "a cell of no size": either alone may be 0. */
    private static void noSize() {
        SeparateScreens s = new SeparateScreens(1, 1);
        DUE.fails("no size", Due.ARITHMETIC, () -> s.cell(0, 0));
        DUE.fails("no cell of it", Due.INDEX, () -> s.rank(0, -1));
        DUE.is("a alone", s.cell(1, 0), 0);
        DUE.is("b alone", s.cell(0, 1), 1);
        DUE.is("b alone, up", s.cell(0, -1), 2);
    }

    private static SeparateScreens withSixCells() {
        SeparateScreens s = new SeparateScreens(16, 12);
        for (int i = 0; i < 6; i++) {
            int number = i;
            DUE.fails("cell " + number + " before it is made", Due.INDEX, () -> s.rank(number, -1));
            DUE.is("cell", s.cell(i + 1, 0), number);
        }
        return s;
    }

    private static void sixthCell() {
        SeparateScreens s = withSixCells();
        for (int i = 0; i < 6; i++) {
            DUE.is("N of cell " + i, s.rank(i, -1), (i + 1) * (i + 1));
        }
    }

    /** "UnsupportedOperationException when there are 6"; the other two are named before it. */
    private static void seventhCell() {
        SeparateScreens s = withSixCells();
        DUE.fails("a seventh", Due.UNSUPPORTED, () -> s.cell(1, 1));
        DUE.fails("a seventh of no size", Due.ARITHMETIC, () -> s.cell(0, 0));
        DUE.fails("a seventh, a 13", Due.ARGUMENT, () -> s.cell(13, 0));
        DUE.fails("a seventh, a -1", Due.ARGUMENT, () -> s.cell(-1, 0));
        DUE.fails("a seventh, b 13", Due.ARGUMENT, () -> s.cell(0, 13));
        DUE.fails("a seventh, b -13", Due.ARGUMENT, () -> s.cell(0, -13));
        DUE.fails("cell 6", Due.INDEX, () -> s.rank(6, -1));
        DUE.is("cell 5 is there still", s.rank(5, -1), 36);
    }

    /** One point, and every point is the same as it. */
    private static void smallestCells() {
        int[][] steps = {{1, 0}, {0, 1}, {0, -1}};
        for (int[] ab : steps) {
            SeparateScreens s = withCell(ab[0], ab[1]);
            DUE.is("N", s.rank(0, -1), 1);
            DUE.is("rank", s.rank(0, 0), 0);
            DUE.fails("no second point", Due.INDEX, () -> s.rank(0, 1));
            DUE.is("same", s.same(0, -7, 12), 0);
        }
    }

    /** 288 points in 12 rows of 24; the farthest from its same ones is (12, 0), 144 in size. */
    private static void largestCells() {
        for (int b : new int[] {12, -12}) {
            SeparateScreens s = withCell(12, b);
            DUE.is("N", s.rank(0, -1), 288);
            DUE.is("the first", s.rank(0, 0), 0);
            DUE.is("the last rank", s.rank(0, 12), 287);
            DUE.is("the last point is there", s.same(0, 23, 11), 287);
            DUE.fails("no point 288", Due.INDEX, () -> s.rank(0, 288));
        }
    }

    /** "those (x, y) with 0 <= y < g and 0 <= x < N / g .. NUMBER x + y (N / g)": (6, 4) has 2 rows of 26. */
    private static void numbersOfPoints() {
        SeparateScreens s = withCell(6, 4);
        DUE.is("N", s.rank(0, -1), 52);
        DUE.is("the first", s.same(0, 0, 0), 0);
        DUE.is("the last of the first row", s.same(0, 25, 0), 25);
        DUE.is("the first of the last row", s.same(0, 0, 1), 26);
        DUE.is("the last", s.same(0, 25, 1), 51);
    }

    /** Just outside the cell's own points: 26 columns on are the same, and 2 rows down so are 16 columns on. */
    private static void wrapAround() {
        SeparateScreens s = withCell(6, 4);
        DUE.is("one right of the last column", s.same(0, 26, 0), 0);
        DUE.is("one left of the first column", s.same(0, -1, 0), 25);
        DUE.is("one right of the last row", s.same(0, 26, 1), 26);
        DUE.is("one left of the last row", s.same(0, -1, 1), 51);
        // 2 of (6, 4) and -1 of (-4, 6) lead to (16, 2), so (16, 2) is the same as (0, 0) and (0, 2) as (-16, 0).
        DUE.is("one below the last row", s.same(0, 0, 2), 10);
        DUE.is("the same as the first", s.same(0, 16, 2), 0);
        DUE.is("one above the first row", s.same(0, 0, -1), 26 + 16);
        DUE.is("a step", s.same(0, 6, 4), 0);
        DUE.is("a step back", s.same(0, -6, -4), 0);
        DUE.is("the other step", s.same(0, -4, 6), 0);
        DUE.is("the other step back", s.same(0, 4, -6), 0);
    }

    /** "by size, the least first, of the same size by number": 3 by 3 has sizes 0 1 1, 1 2 2, 1 2 2. */
    private static void sizesBeforeNumbers() {
        int[] due = {0, 1, 2, 3, 5, 6, 4, 7, 8};
        SeparateScreens s = withCell(3, 0);
        for (int i = 0; i < 9; i++) {
            DUE.is("rank of " + i, s.rank(0, i), due[i]);
        }
        int[] even = {0, 1, 7, 2, 3, 5, 4, 6};
        SeparateScreens slanted = withCell(2, 2);
        for (int i = 0; i < 8; i++) {
            DUE.is("slanted, rank of " + i, slanted.rank(0, i), even[i]);
        }
    }

    /** Promise 12: "its N (i = -1), the rank of its point with number i". */
    private static void ranksOfNoPoint() {
        SeparateScreens s = withCell(2, 1);
        DUE.is("i -1", s.rank(0, -1), 5);
        DUE.is("i 0", s.rank(0, 0), 0);
        DUE.is("i 4", s.rank(0, 4), 4);
        for (int no : new int[] {-2, 5, 6, LEAST, MOST}) {
            DUE.fails("i " + no, Due.INDEX, () -> s.rank(0, no));
        }
    }

    private static void cellsOfRanks() {
        SeparateScreens s = withCell(2, 1);
        for (int no : new int[] {-1, 1, 5, 6, LEAST, MOST}) {
            DUE.fails("N of cell " + no, Due.INDEX, () -> s.rank(no, -1));
            DUE.fails("rank in cell " + no, Due.INDEX, () -> s.rank(no, 0));
            DUE.fails("same in cell " + no, Due.INDEX, () -> s.same(no, 0, 0));
            DUE.fails("prints by cell " + no, Due.INDEX, () -> s.prints(no, 0, 0, 0) ? 1 : 0);
        }
    }

    /** Promise 13: "-1000000 .. 1000000", worked by hand for some cells. */
    private static void farthestPoints() {
        // 1000000 is 4 and -1000000 is 8 by twelves.
        far(12, 0, 4 + 12 * 4, 4 + 12 * 8, 8 + 12 * 4, 8 + 12 * 8);
        // By (12, 12), 12 rows down are 12 columns; 1000000 is 16 by 24, and 83333 times 12 and 4.
        far(12, 12, 4 + 24 * 4, 16 + 24 * 8, 20 + 24 * 4, 8 + 24 * 8);
        // By (1, 1) and (2, 1) a million is nothing at all.
        far(1, 1, 0, 0, 0, 0);
        far(2, 1, 0, 0, 0, 0);
        far(0, -1, 0, 0, 0, 0);
        SeparateScreens s = withCell(2, 1);
        DUE.is("x 999999", s.same(0, 999999, 0), 4);
        DUE.is("x -999999", s.same(0, -999999, 0), 1);
        DUE.is("y 999999", s.same(0, 0, 999999), 2);
        DUE.is("y -999999", s.same(0, 0, -999999), 3);
    }

    /** The same of (+, +), (+, -), (-, +) and (-, -) a million. */
    private static void far(int a, int b, int... due) {
        SeparateScreens s = withCell(a, b);
        String what = "far by " + a + " " + b;
        DUE.is(what + ", + +", s.same(0, 1000000, 1000000), due[0]);
        DUE.is(what + ", + -", s.same(0, 1000000, -1000000), due[1]);
        DUE.is(what + ", - +", s.same(0, -1000000, 1000000), due[2]);
        DUE.is(what + ", - -", s.same(0, -1000000, -1000000), due[3]);
    }

    /** "IllegalArgumentException when x or y is not -1000000 .. 1000000". */
    private static void tooFar() {
        SeparateScreens s = withCell(12, 12);
        for (int no : new int[] {-1000001, 1000001, LEAST, MOST}) {
            DUE.fails("x " + no, Due.ARGUMENT, () -> s.same(0, no, 0));
            DUE.fails("y " + no, Due.ARGUMENT, () -> s.same(0, 0, no));
            DUE.fails("x " + no + ", y at its bound", Due.ARGUMENT, () -> s.same(0, no, 1000000));
            DUE.fails("y " + no + ", x at its bound", Due.ARGUMENT, () -> s.same(0, -1000000, no));
        }
        DUE.is("after faults", s.same(0, 1, 0), 1);
    }

    /** "ArrayIndexOutOfBoundsException (the cell)" is named before the other. */
    private static void noCellAndTooFar() {
        SeparateScreens s = withCell(1, 1);
        for (int no : new int[] {-1, 1}) {
            DUE.fails("no cell, x too far", Due.INDEX, () -> s.same(no, 1000001, 0));
            DUE.fails("no cell, y too far", Due.INDEX, () -> s.same(no, 0, -1000001));
        }
        SeparateScreens without = new SeparateScreens(1, 1);
        DUE.fails("no cell at all", Due.INDEX, () -> without.same(0, MOST, LEAST));
    }

    private static void printed(String what, SeparateScreens s, int value, int x, int y, boolean due) {
        Pages.dot(s, x, y, 1, value);
        DUE.is(what + ", " + value, s.prints(0, 1, x, y) ? 1 : 0, due ? 1 : 0);
    }

    /** "below (v N + 127) / 255": 0 prints nowhere and 255 everywhere, whatever the cell. */
    private static void byte0AndByte255() {
        int[][] steps = {{0, 1}, {1, 1}, {0, -2}, {3, 1}, {12, 0}, {12, 12}, {12, -11}};
        for (int[] ab : steps) {
            SeparateScreens s = withCell(ab[0], ab[1]);
            s.colour(0, 255);
            s.paint(0, 0, 15, 11, false);
            for (int point = 0; point < 192; point++) {
                DUE.is("255", s.prints(0, 0, point % 16, point / 16) ? 1 : 0, 1);
                DUE.is("0", s.prints(0, 1, point % 16, point / 16) ? 1 : 0, 0);
            }
        }
    }

    /** (127 + 127) / 255 is 0, (128 + 127) / 255 is 1. */
    private static void cellOfOnePoint() {
        SeparateScreens s = withCell(0, 1);
        printed("one point", s, 127, 5, 5, false);
        printed("one point", s, 128, 5, 5, true);
    }

    /** Rank 0 from 64 on, rank 1 from 192 on. */
    private static void cellOfTwoPoints() {
        SeparateScreens s = withCell(1, 1);
        printed("rank 0", s, 63, 0, 0, false);
        printed("rank 0", s, 64, 0, 0, true);
        printed("rank 0", s, 64, 15, 11, true);
        printed("rank 1", s, 191, 1, 0, false);
        printed("rank 1", s, 192, 1, 0, true);
        printed("rank 1", s, 191, 0, 11, false);
    }

    /** (288 + 127) / 255 is 1, (254 * 288 + 127) / 255 is 287. */
    private static void cellOf288Points() {
        SeparateScreens s = withCell(12, 12);
        printed("rank 0", s, 0, 0, 0, false);
        printed("rank 0", s, 1, 0, 0, true);
        printed("rank 287", s, 254, 12, 0, false);
        printed("rank 287", s, 255, 12, 0, true);
    }

    /** Promise 14: "an ink's byte (of way 2)": by the curve, and not of the trap. */
    private static void printsByWay2() {
        SeparateScreens s = withCell(0, 1);
        Pages.dot(s, 0, 0, Pages.BLACK, 255);
        Pages.dot(s, 1, 0, Pages.YELLOW, 255);
        DUE.is("the trap has 255", s.plate(Pages.YELLOW, 0, 0, 1), 255);
        DUE.is("the trap does not print", s.prints(0, Pages.YELLOW, 0, 0) ? 1 : 0, 0);
        s.gain(0, 128);
        DUE.is("0 becomes 128", s.prints(0, Pages.YELLOW, 0, 0) ? 1 : 0, 1);
        s.gain(255, 127);
        DUE.is("255 becomes 127", s.prints(0, Pages.YELLOW, 1, 0) ? 1 : 0, 0);
    }

    /** Promise 14: "at a point of the page". */
    private static void printsAtEdges() {
        SeparateScreens s = withCell(1, 1);
        s.colour(0, 64);
        s.paint(0, 0, 15, 11, false);
        DUE.is("first", s.prints(0, 0, 0, 0) ? 1 : 0, 1);
        DUE.is("end of the first row", s.prints(0, 0, 15, 0) ? 1 : 0, 0);
        DUE.is("start of the last row", s.prints(0, 0, 0, 11) ? 1 : 0, 0);
        DUE.is("last", s.prints(0, 0, 15, 11) ? 1 : 0, 1);
        int[][] out = {{-1, 0}, {16, 0}, {0, -1}, {0, 12}, {16, 12}, {LEAST, 0}, {0, MOST}};
        for (int[] p : out) {
            DUE.fails("at " + p[0] + " " + p[1], Due.INDEX, () -> s.prints(0, 0, p[0], p[1]) ? 1 : 0);
        }
    }

    private static void printsOfTheLastInkAndCell() {
        SeparateScreens s = Pages.withEightInks(1, 1);
        for (int i = 0; i < 6; i++) {
            s.cell(0, 1);
        }
        Pages.dot(s, 0, 0, 7, 128);
        DUE.is("ink 7 by cell 5", s.prints(5, 7, 0, 0) ? 1 : 0, 1);
        DUE.is("ink 6 by cell 5", s.prints(5, 6, 0, 0) ? 1 : 0, 0);
        DUE.fails("ink 8", Due.INDEX, () -> s.prints(5, 8, 0, 0) ? 1 : 0);
        DUE.fails("cell 6", Due.INDEX, () -> s.prints(6, 7, 0, 0) ? 1 : 0);
    }

    private static void printsOfNothing() {
        SeparateScreens s = withCell(1, 1);
        DUE.fails("ink -1", Due.INDEX, () -> s.prints(0, -1, 0, 0) ? 1 : 0);
        DUE.fails("ink 4", Due.INDEX, () -> s.prints(0, 4, 0, 0) ? 1 : 0);
        DUE.fails("cell -1", Due.INDEX, () -> s.prints(-1, 0, 0, 0) ? 1 : 0);
        DUE.fails("cell 1", Due.INDEX, () -> s.prints(1, 0, 0, 0) ? 1 : 0);
    }
}
