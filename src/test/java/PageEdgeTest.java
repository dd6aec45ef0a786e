/** The edges of promises 1 to 4: a new page, its inks, the colour, and which points are painted. */
public final class PageEdgeTest {
    private static final int LEAST = Integer.MIN_VALUE;
    private static final int MOST = Integer.MAX_VALUE;
    private static final Due DUE = new Due();

    public static void main(String[] args) {
        sizes();
        lenderCountsByTheWidthThatThePageHas();
        withoutInk();
        fourInks();
        noCells();
        firstLimit();
        firstColour();
        firstWidth();
        columnsAndRows();
        mixesOfTheFirstFour();
        upToFourMore();
        mixesFrom0To255();
        coloursFromNoneTo255();
        noneIsNotZero();
        coloursOfTheEighthInk();
        newInkIsNotInTheColour();
        colourStays();
        corners();
        besideThePage();
        acrossTheEdge();
        paintedBackward();
        paintedWithoutInk();
        onlyThosePointsChange();
        call512();
        DUE.end();
    }

    /** "A page of 1 .. 16 by 1 .. 12 points (what is less counts as 1, what is more as these)". */
    private static void sizes() {
        int[][] widths = {{LEAST, 1}, {-1, 1}, {0, 1}, {1, 1}, {2, 2}, {15, 15}, {16, 16}, {17, 16}, {MOST, 16}};
        int[][] heights = {{LEAST, 1}, {-1, 1}, {0, 1}, {1, 1}, {2, 2}, {11, 11}, {12, 12}, {13, 12}, {MOST, 12}};
        for (int[] width : widths) {
            for (int[] height : heights) {
                size("page of " + width[0] + " by " + height[0], new SeparateScreens(width[0], height[0]), width[1], height[1]);
            }
        }
    }

    private static void size(String what, SeparateScreens s, int columns, int rows) {
        DUE.is(what + ", all points", s.paint(LEAST, LEAST, MOST, MOST, false), columns * rows);
        DUE.is(what + ", the first row", s.paint(LEAST, 0, MOST, 0, false), columns);
        DUE.is(what + ", the first column", s.paint(0, LEAST, 0, MOST, false), rows);
        DUE.is(what + ", the last point", s.lender(columns - 1, rows - 1), -1);
        DUE.fails(what + ", one column more", Due.INDEX, () -> s.lender(columns, 0));
        DUE.fails(what + ", one row more", Due.INDEX, () -> s.lender(0, rows));
    }

    /** "x + width * y", of a page that has fewer columns than were asked for. */
    private static void lenderCountsByTheWidthThatThePageHas() {
        SeparateScreens wide = new SeparateScreens(99, 99);
        Pages.dot(wide, 3, 1, Pages.BLACK, 255);
        Pages.dot(wide, 3, 2, Pages.YELLOW, 255);
        DUE.is("lender on a page of 16 columns", wide.lender(3, 1), 3 + 16 * 2);
        SeparateScreens narrow = new SeparateScreens(-5, 99);
        Pages.dot(narrow, 0, 11, Pages.BLACK, 255);
        Pages.dot(narrow, 0, 10, Pages.YELLOW, 255);
        DUE.is("lender on a page of one column", narrow.lender(0, 11), 10);
    }

    /** "without ink". */
    private static void withoutInk() {
        SeparateScreens s = new SeparateScreens(4, 3);
        for (int ink = 0; ink < 4; ink++) {
            DUE.is("covered at first", s.covered(ink), 0);
            for (int point = 0; point < 12; point++) {
                for (int way = 0; way < 4; way++) {
                    DUE.is("a point at first", s.plate(ink, point % 4, point / 4, way), 0);
                }
            }
        }
    }

    /** "four inks": 3 is the last. */
    private static void fourInks() {
        SeparateScreens s = new SeparateScreens(1, 1);
        DUE.is("ink 3", s.covered(3), 0);
        DUE.fails("ink 4", Due.INDEX, () -> s.covered(4));
        DUE.fails("ink 4 on a plate", Due.INDEX, () -> s.plate(4, 0, 0, 0));
        DUE.fails("ink 4 in the colour", Due.INDEX, () -> s.colour(4, -1));
        DUE.fails("ink 4 packed", Due.INDEX, () -> s.packed(4, -1));
        DUE.is("the next ink", s.ink(0, 0, 0, 0), 4);
    }

    /** "no cells". */
    private static void noCells() {
        SeparateScreens s = new SeparateScreens(1, 1);
        DUE.fails("N at first", Due.INDEX, () -> s.rank(0, -1));
        DUE.fails("rank at first", Due.INDEX, () -> s.rank(0, 0));
        DUE.fails("same at first", Due.INDEX, () -> s.same(0, 0, 0));
        DUE.fails("prints at first", Due.INDEX, () -> s.prints(0, 0, 0, 0) ? 1 : 0);
        DUE.is("the next cell", s.cell(1, 0), 0);
    }

    /** "the limit is 2040": all that eight inks can have. */
    private static void firstLimit() {
        SeparateScreens s = Pages.withEightInks(1, 1);
        Pages.mix(s, 255, 255, 255, 255, 255, 255, 255, 255);
        s.paint(0, 0, 0, 0, false);
        Pages.point(DUE, "by the first limit", s, 0, 0, 255, 255, 255, 255, 255, 255, 255, 255);
        DUE.is("the first limit", s.limit(0), 2040);
    }

    /** "the colour has no ink": black that came by a limit stays under it, and is knocked out by it. */
    private static void firstColour() {
        SeparateScreens s = new SeparateScreens(1, 1);
        DUE.is("paint", s.paint(0, 0, 0, 0, false), 1);
        Pages.point(DUE, "by the first colour", s, 0, 0, 0, 0, 0, 0);
        s.limit(299);
        Pages.mix(s, 100, 100, 100);
        s.paint(0, 0, 0, 0, false);
        Pages.mix(s, -1, -1, -1);
        s.paint(0, 0, 0, 0, true);
        Pages.point(DUE, "over by the first colour", s, 0, 0, 99, 99, 99, 1);
        s.paint(0, 0, 0, 0, false);
        Pages.point(DUE, "knocked out by the first colour", s, 0, 0, 0, 0, 0, 0);
    }

    /** "the trap's width is 1": not 0, and not 2. */
    private static void firstWidth() {
        SeparateScreens s = new SeparateScreens(5, 1);
        Pages.dot(s, 0, 0, Pages.BLACK, 255);
        Pages.dot(s, 1, 0, Pages.YELLOW, 255);
        Pages.dot(s, 4, 0, Pages.BLACK, 255);
        Pages.dot(s, 2, 0, Pages.YELLOW, 255);
        DUE.is("one column away", s.lender(0, 0), 1);
        DUE.is("two columns away", s.lender(4, 0), -1);
        DUE.is("the first width", s.width(1), 1);
    }

    /** "POINTS (x, y), x below its WIDTH, y below its HEIGHT", and none below 0. */
    private static void columnsAndRows() {
        SeparateScreens s = new SeparateScreens(5, 3);
        s.cell(1, 0);
        int[][] in = {{0, 0}, {4, 0}, {0, 2}, {4, 2}};
        for (int[] p : in) {
            DUE.is("plate at a corner", s.plate(0, p[0], p[1], 0), 0);
            DUE.is("seen at a corner", s.seen(p[0], p[1], 0, true), 255);
            DUE.is("lender at a corner", s.lender(p[0], p[1]), -1);
            DUE.is("prints at a corner", s.prints(0, 0, p[0], p[1]) ? 1 : 0, 0);
        }
        int[][] out = {{-1, 0}, {5, 0}, {0, -1}, {0, 3}, {-1, 2}, {5, 2}, {4, -1}, {4, 3}, {2, 4}, {3, 4}, {-5, 1}, {5, -1}};
        for (int[] p : out) {
            String at = " at " + p[0] + " " + p[1];
            for (int i = 0; i < 4; i++) {
                int way = i;
                DUE.fails("plate" + at, Due.INDEX, () -> s.plate(0, p[0], p[1], way));
            }
            DUE.fails("seen" + at, Due.INDEX, () -> s.seen(p[0], p[1], 0, false));
            DUE.fails("seen of the trap" + at, Due.INDEX, () -> s.seen(p[0], p[1], 0, true));
            DUE.fails("lender" + at, Due.INDEX, () -> s.lender(p[0], p[1]));
            DUE.fails("prints" + at, Due.INDEX, () -> s.prints(0, 0, p[0], p[1]) ? 1 : 0);
        }
    }

    /** "that of 0 to 3 is 255 of itself, 0 of others". */
    private static void mixesOfTheFirstFour() {
        int[][] due = {{0, 255, 255}, {255, 0, 255}, {255, 255, 0}, {0, 0, 0}};
        SeparateScreens s = new SeparateScreens(1, 1);
        for (int ink = 0; ink < 4; ink++) {
            Pages.dot(s, 0, 0, ink, 255);
            for (int band = 0; band < 3; band++) {
                DUE.is("ink " + ink + " in band " + band, s.seen(0, 0, band, false), due[ink][band]);
            }
        }
    }

    /** "up to four more", "UnsupportedOperationException when there are 8". */
    private static void upToFourMore() {
        SeparateScreens s = new SeparateScreens(1, 1);
        for (int i = 4; i < 8; i++) {
            int number = i;
            DUE.fails("before ink " + number, Due.INDEX, () -> s.covered(number));
            DUE.is("ink", s.ink(number, 0, 0, 0), number);
            DUE.is("ink " + number + " is nowhere", s.covered(number), 0);
        }
        DUE.fails("a ninth ink", Due.UNSUPPORTED, () -> s.ink(1, 2, 3, 4));
        DUE.fails("ink 8", Due.INDEX, () -> s.covered(8));
        DUE.is("ink 7 is there still", s.covered(7), 0);
    }

    /** Promise 2: "IllegalArgumentException when one is no byte": 0 and 255 are bytes, and each has its place. */
    private static void mixesFrom0To255() {
        SeparateScreens s = new SeparateScreens(1, 1);
        for (int no : new int[] {-1, 256}) {
            DUE.fails("a " + no, Due.ARGUMENT, () -> s.ink(no, 1, 1, 1));
            DUE.fails("b " + no, Due.ARGUMENT, () -> s.ink(1, no, 1, 1));
            DUE.fails("c " + no, Due.ARGUMENT, () -> s.ink(1, 1, no, 1));
            DUE.fails("d " + no, Due.ARGUMENT, () -> s.ink(1, 1, 1, no));
        }
        int[][] mixes = {{255, 0, 0, 0}, {0, 255, 0, 0}, {0, 0, 255, 0}, {0, 0, 0, 255}};
        int[][] due = {{0, 255, 255}, {255, 0, 255}, {255, 255, 0}, {0, 0, 0}};
        for (int i = 0; i < 4; i++) {
            DUE.is("ink", s.ink(mixes[i][0], mixes[i][1], mixes[i][2], mixes[i][3]), 4 + i);
            Pages.dot(s, 0, 0, 4 + i, 255);
            for (int band = 0; band < 3; band++) {
                DUE.is("new ink " + i + " in band " + band, s.seen(0, 0, band, false), due[i][band]);
            }
        }
    }

    /** Promise 3: "IllegalArgumentException when v is not -1 .. 255". */
    private static void coloursFromNoneTo255() {
        SeparateScreens s = new SeparateScreens(1, 1);
        for (int v : new int[] {0, 1, 254, 255}) {
            s.colour(3, v);
            s.paint(0, 0, 0, 0, true);
            DUE.is("colour of " + v, s.plate(3, 0, 0, 0), v);
        }
        DUE.fails("colour of 256", Due.ARGUMENT, () -> s.colour(3, 256));
        DUE.fails("colour of -2", Due.ARGUMENT, () -> s.colour(3, -2));
        s.paint(0, 0, 0, 0, true);
        DUE.is("colour after faults", s.plate(3, 0, 0, 0), 255);
    }

    /** "A COLOUR is for each ink a byte, or that it is not in it": 0 of an ink is in it. */
    private static void noneIsNotZero() {
        SeparateScreens s = Pages.withEightInks(2, 1);
        Pages.mix(s, 10, 20, 30, 40, 50, 60, 70, 80);
        s.paint(0, 0, 1, 0, false);
        Pages.mix(s, 0, -1, 0, -1, 0, -1, 0, -1);
        s.paint(0, 0, 0, 0, true);
        Pages.point(DUE, "0 over", s, 0, 0, 0, 20, 0, 40, 0, 60, 0, 80);
        Pages.mix(s, -1, 255, -1, 255, -1, 255, -1, 255);
        s.paint(1, 0, 1, 0, false);
        Pages.point(DUE, "knocked out", s, 1, 0, 0, 255, 0, 255, 0, 255, 0, 255);
    }

    /** Promise 3: "ArrayIndexOutOfBoundsException": ink 7 is there when there are eight. */
    private static void coloursOfTheEighthInk() {
        SeparateScreens s = Pages.withEightInks(1, 1);
        s.colour(7, 200);
        DUE.fails("colour of ink 8", Due.INDEX, () -> s.colour(8, 200));
        DUE.fails("colour of ink -1", Due.INDEX, () -> s.colour(-1, 200));
        DUE.fails("no colour of ink 8", Due.ARGUMENT, () -> s.colour(8, 256));
        s.paint(0, 0, 0, 0, false);
        Pages.point(DUE, "the eighth ink", s, 0, 0, 0, 0, 0, 0, 0, 0, 0, 200);
    }

    private static void newInkIsNotInTheColour() {
        SeparateScreens s = new SeparateScreens(1, 1);
        Pages.mix(s, 1, 2, 3, 4);
        s.ink(0, 0, 0, 0);
        s.paint(0, 0, 0, 0, false);
        Pages.point(DUE, "a new ink", s, 0, 0, 1, 2, 3, 4, 0);
    }

    /** Nothing but colour changes the colour. */
    private static void colourStays() {
        SeparateScreens s = new SeparateScreens(2, 1);
        s.colour(1, 77);
        s.paint(0, 0, 0, 0, false);
        s.ink(0, 0, 0, 0);
        s.gain(77, 1);
        s.limit(100);
        s.width(0);
        s.paint(1, 0, 1, 0, false);
        Pages.point(DUE, "the colour later", s, 1, 0, 0, 77, 0, 0, 0);
    }

    private static void painted(String what, int x, int y, int x2, int y2, int due) {
        SeparateScreens s = new SeparateScreens(5, 4);
        s.colour(0, 1);
        DUE.is(what, s.paint(x, y, x2, y2, false), due);
        DUE.is(what + ", points that have it", s.covered(0), due);
    }

    /** Promise 4: "Points from (x, y) to (x2, y2)": both are among them. */
    private static void corners() {
        painted("the first point", 0, 0, 0, 0, 1);
        painted("the last point", 4, 3, 4, 3, 1);
        painted("two columns", 1, 1, 2, 1, 2);
        painted("two rows", 1, 1, 1, 2, 2);
        painted("the first row", 0, 0, 4, 0, 5);
        painted("the last column", 4, 0, 4, 3, 4);
        painted("all but the edge", 1, 1, 3, 2, 6);
        painted("all", 0, 0, 4, 3, 20);
    }

    /** Promise 4: points "that the page has": none of these. */
    private static void besideThePage() {
        painted("left of it", -1, 0, -1, 3, 0);
        painted("right of it", 5, 0, 5, 3, 0);
        painted("above it", 0, -1, 4, -1, 0);
        painted("below it", 0, 4, 4, 4, 0);
        painted("far left", LEAST, LEAST, -1, MOST, 0);
        painted("far right", 5, LEAST, MOST, MOST, 0);
        painted("far above", LEAST, LEAST, MOST, -1, 0);
        painted("far below", LEAST, 4, MOST, MOST, 0);
        painted("farthest", MOST, MOST, MOST, MOST, 0);
        painted("farthest back", LEAST, LEAST, LEAST, LEAST, 0);
    }

    /** Promise 4: points "that the page has": some of these. */
    private static void acrossTheEdge() {
        painted("the first corner", -1, -1, 0, 0, 1);
        painted("the last corner", 4, 3, 5, 4, 1);
        painted("far into the first corner", LEAST, LEAST, 1, 1, 4);
        painted("far out of the last corner", 3, 2, MOST, MOST, 4);
        painted("one more on each side", -1, -1, 5, 4, 20);
        painted("all and more", LEAST, LEAST, MOST, MOST, 20);
        painted("a row and more", LEAST, 2, MOST, 2, 5);
        painted("a column and more", 2, LEAST, 2, MOST, 4);
    }

    /** No point lies from one place to another that is before it. */
    private static void paintedBackward() {
        painted("one column back", 2, 0, 1, 3, 0);
        painted("one row back", 0, 2, 4, 1, 0);
        painted("both back", 4, 3, 0, 0, 0);
        painted("far back", MOST, MOST, LEAST, LEAST, 0);
    }

    /** "how many": points are counted though they get nothing. */
    private static void paintedWithoutInk() {
        SeparateScreens s = new SeparateScreens(5, 4);
        DUE.is("no ink", s.paint(0, 0, 4, 3, false), 20);
        DUE.is("no ink, over", s.paint(1, 1, 2, 2, true), 4);
        s.limit(0);
        s.colour(0, 255);
        DUE.is("all too much", s.paint(0, 0, 4, 3, false), 20);
        DUE.is("none is left", s.covered(0), 0);
    }

    /** Points beside what is painted keep what they have, at the page's edges too. */
    private static void onlyThosePointsChange() {
        SeparateScreens s = new SeparateScreens(4, 4);
        s.colour(2, 9);
        s.paint(0, 0, 3, 3, false);
        s.colour(2, 100);
        s.paint(3, 1, 9, 2, false);
        for (int point = 0; point < 16; point++) {
            int x = point % 4;
            int y = point / 4;
            DUE.is("at " + x + " " + y, s.plate(2, x, y, 0), x == 3 && (y == 1 || y == 2) ? 100 : 9);
        }
    }

    /** "An object is used for at most 512 calls": the last of them is answered as the first. */
    private static void call512() {
        SeparateScreens s = new SeparateScreens(16, 12);
        for (int call = 1; call <= 510; call++) {
            s.colour(0, call % 256);
        }
        DUE.is("call 511", s.paint(0, 0, 15, 11, false), 192);
        DUE.is("call 512", s.covered(0), 192 * (510 - 256));
    }
}
