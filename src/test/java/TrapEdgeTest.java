/** The edges of promises 8 and 9: points that are unlike, lighter and near enough, and which of them lends. */
public final class TrapEdgeTest {
    private static final Due DUE = new Due();

    public static void main(String[] args) {
        noInk24();
        inkOfBoth25();
        anyInkOfBoth();
        eachHasSome();
        paperLendsNothing();
        newInksCount();
        lighterOnly();
        lightnessDownward();
        lightnessOfEachBand();
        lightnessOfGreys();
        lightnessWithoutTraps();
        lightnessWithoutTheCurve();
        itselfLendsNothing();
        columnsAway();
        rowsAway();
        bothAway();
        widthOfNothing();
        leastOfSquares();
        topmost();
        leftmost();
        edgesOfThePage();
        noWrapAround();
        onePoint();
        greaterOfBoth();
        firstPointLends();
        platesStay();
        whatItWas();
        bounds();
        DUE.end();
    }

    private static SeparateScreens row(int columns) {
        return new SeparateScreens(columns, 1);
    }

    /** "if there is no ink of which both have 25 or more": 24 is not 25. */
    private static void noInk24() {
        SeparateScreens s = row(2);
        Pages.dot(s, 0, 0, Pages.BLACK, 255);
        Pages.dot(s, 1, 0, Pages.YELLOW, 100);
        Pages.over(s, 1, 0, Pages.BLACK, 24);
        DUE.is("255 and 24 of black", s.lender(0, 0), 1);
        Pages.over(s, 1, 0, Pages.BLACK, 25);
        DUE.is("255 and 25 of black", s.lender(0, 0), -1);
    }

    private static void inkOfBoth25() {
        SeparateScreens s = row(2);
        Pages.dot(s, 0, 0, Pages.BLACK, 255);
        Pages.over(s, 0, 0, Pages.YELLOW, 24);
        Pages.dot(s, 1, 0, Pages.YELLOW, 100);
        DUE.is("24 and 100 of yellow", s.lender(0, 0), 1);
        Pages.over(s, 0, 0, Pages.YELLOW, 25);
        DUE.is("25 and 100 of yellow", s.lender(0, 0), -1);
        Pages.over(s, 1, 0, Pages.YELLOW, 24);
        Pages.over(s, 1, 0, Pages.CYAN, 25);
        DUE.is("25 and 24 of yellow", s.lender(0, 0), 1);
    }

    /** "no ink of which both have": of eight, any one. */
    private static void anyInkOfBoth() {
        for (int ink = 0; ink < 8; ink++) {
            SeparateScreens s = Pages.withEightInks(2, 1);
            Pages.dot(s, 0, 0, Pages.BLACK, 255);
            Pages.dot(s, 1, 0, ink == Pages.CYAN ? Pages.MAGENTA : Pages.CYAN, 30);
            Pages.over(s, 0, 0, ink, ink == Pages.BLACK ? 255 : 25);
            Pages.over(s, 1, 0, ink, 24);
            DUE.is("25 and 24 of ink " + ink, s.lender(0, 0), 1);
            Pages.over(s, 1, 0, ink, 25);
            DUE.is("25 and 25 of ink " + ink, s.lender(0, 0), -1);
        }
    }

    /** "each has some ink of 25 or more". */
    private static void eachHasSome() {
        SeparateScreens s = row(2);
        Pages.dot(s, 0, 0, Pages.BLACK, 25);
        Pages.dot(s, 1, 0, Pages.YELLOW, 25);
        DUE.is("25 and 25", s.lender(0, 0), 1);
        Pages.dot(s, 1, 0, Pages.YELLOW, 24);
        DUE.is("the other has 24", s.lender(0, 0), -1);
        Pages.dot(s, 1, 0, Pages.YELLOW, 25);
        Pages.dot(s, 0, 0, Pages.BLACK, 24);
        DUE.is("it has 24", s.lender(0, 0), -1);
        Pages.over(s, 0, 0, Pages.CYAN, 24);
        Pages.over(s, 0, 0, Pages.MAGENTA, 24);
        DUE.is("it has 24 of three", s.lender(0, 0), -1);
    }

    private static void paperLendsNothing() {
        SeparateScreens s = new SeparateScreens(3, 3);
        DUE.is("paper by paper", s.lender(1, 1), -1);
        Pages.dot(s, 1, 1, Pages.BLACK, 255);
        DUE.is("black by paper", s.lender(1, 1), -1);
        DUE.is("paper by black", s.lender(0, 0), -1);
    }

    private static void newInksCount() {
        SeparateScreens s = row(2);
        for (int ink = 4; ink < 8; ink++) {
            s.ink(0, 0, 0, 60 * (ink - 3));
        }
        Pages.dot(s, 0, 0, 7, 25);
        Pages.dot(s, 1, 0, 4, 25);
        DUE.is("ink 4 lends to ink 7", s.lender(0, 0), 1);
        DUE.is("ink 7 does not lend to ink 4", s.lender(1, 0), -1);
        Pages.dot(s, 1, 0, 4, 24);
        DUE.is("24 of ink 4", s.lender(0, 0), -1);
    }

    /** "unlike p and lighter": as light is not lighter. */
    private static void lighterOnly() {
        SeparateScreens s = row(2);
        s.ink(100, 100, 100, 0);
        s.ink(100, 100, 100, 0);
        Pages.dot(s, 0, 0, 4, 100);
        Pages.dot(s, 1, 0, 5, 100);
        DUE.is("as light", s.lender(0, 0), -1);
        DUE.is("as light, back", s.lender(1, 0), -1);
        Pages.dot(s, 1, 0, 5, 97);
        DUE.is("one lighter", s.lender(0, 0), 1);
        DUE.is("one darker", s.lender(1, 0), -1);
    }

    /** "(30 r + 59 g + 11 b) / 100" downward: 25 of magenta is 24025, cyan is 24000 by 50 and 23970 by 51. */
    private static void lightnessDownward() {
        SeparateScreens s = row(2);
        Pages.dot(s, 1, 0, Pages.MAGENTA, 25);
        Pages.dot(s, 0, 0, Pages.CYAN, 50);
        DUE.is("240 and 240", s.lender(0, 0), -1);
        Pages.dot(s, 0, 0, Pages.CYAN, 51);
        DUE.is("239 and 240", s.lender(0, 0), 1);
    }

    /** Full inks are 178 (cyan, 17850), 104 (magenta, 10455) and 226 (yellow, 22695) light, black is 0. */
    private static void lightnessOfEachBand() {
        SeparateScreens s = row(2);
        int[] byLight = {Pages.BLACK, Pages.MAGENTA, Pages.CYAN, Pages.YELLOW};
        for (int i = 0; i < 4; i++) {
            for (int j = 0; j < 4; j++) {
                Pages.dot(s, 0, 0, byLight[i], 255);
                Pages.dot(s, 1, 0, byLight[j], 255);
                DUE.is("ink " + byLight[j] + " by ink " + byLight[i], s.lender(0, 0), j > i ? 1 : -1);
            }
        }
    }

    /** Black of v is 255 - v light in every band: 226 is yellow's, so 29 of black is as light as yellow. */
    private static void lightnessOfGreys() {
        greyBy("yellow", Pages.YELLOW, 226);
        greyBy("cyan", Pages.CYAN, 178);
        greyBy("magenta", Pages.MAGENTA, 104);
    }

    private static void greyBy(String what, int ink, int light) {
        SeparateScreens s = row(2);
        Pages.dot(s, 0, 0, Pages.BLACK, 255 - light);
        Pages.dot(s, 1, 0, ink, 255);
        DUE.is("a grey as light as " + what, s.lender(0, 0), -1);
        DUE.is(what + " as light as a grey", s.lender(1, 0), -1);
        Pages.dot(s, 0, 0, Pages.BLACK, 255 - light + 1);
        DUE.is("a grey that is darker than " + what, s.lender(0, 0), 1);
        Pages.dot(s, 0, 0, Pages.BLACK, 255 - light - 1);
        DUE.is(what + " by a grey that is lighter", s.lender(1, 0), 0);
    }

    /** Lightness is of a point's own inks: what its trap has more does not make it darker. */
    private static void lightnessWithoutTraps() {
        SeparateScreens s = row(3);
        Pages.dot(s, 0, 0, Pages.BLACK, 100);
        Pages.dot(s, 1, 0, Pages.CYAN, 100);
        Pages.dot(s, 2, 0, Pages.YELLOW, 255);
        // Cyan alone is 225 light and with yellow's 255 it would be 196; black of 50 is 205.
        DUE.is("cyan borrows", s.lender(1, 0), 2);
        DUE.is("black borrows from cyan", s.lender(0, 0), 1);
        Pages.dot(s, 0, 0, Pages.BLACK, 50);
        DUE.is("205 is darker than cyan alone", s.lender(0, 0), 1);
    }

    private static void lightnessWithoutTheCurve() {
        SeparateScreens s = row(2);
        Pages.dot(s, 0, 0, Pages.BLACK, 200);
        Pages.dot(s, 1, 0, Pages.YELLOW, 100);
        s.gain(200, 0);
        s.gain(100, 24);
        DUE.is("yellow lends", s.lender(0, 0), 1);
        DUE.is("black does not", s.lender(1, 0), -1);
    }

    private static void itselfLendsNothing() {
        SeparateScreens s = new SeparateScreens(3, 3);
        Pages.mix(s, 200, -1, -1, -1);
        s.paint(0, 0, 2, 2, false);
        for (int point = 0; point < 9; point++) {
            DUE.is("one colour all over", s.lender(point % 3, point / 3), -1);
        }
    }

    /** "not more than so many columns": for each width, just as many and one more, to both sides. */
    private static void columnsAway() {
        for (int width = 0; width <= 3; width++) {
            for (int away = 1; away <= 4; away++) {
                SeparateScreens s = row(9);
                s.width(width);
                Pages.dot(s, 4, 0, Pages.BLACK, 255);
                Pages.dot(s, 4 + away, 0, Pages.YELLOW, 100);
                DUE.is(away + " right by " + width, s.lender(4, 0), away <= width ? 4 + away : -1);
                Pages.dot(s, 4 - away, 0, Pages.YELLOW, 100);
                DUE.is(away + " left by " + width, s.lender(4, 0), away <= width ? 4 - away : -1);
            }
        }
    }

    /** "and rows away". */
    private static void rowsAway() {
        for (int width = 0; width <= 3; width++) {
            for (int away = 1; away <= 4; away++) {
                SeparateScreens s = new SeparateScreens(1, 9);
                s.width(width);
                Pages.dot(s, 0, 4, Pages.BLACK, 255);
                Pages.dot(s, 0, 4 + away, Pages.YELLOW, 100);
                DUE.is(away + " below by " + width, s.lender(0, 4), away <= width ? 4 + away : -1);
                Pages.dot(s, 0, 4 - away, Pages.YELLOW, 100);
                DUE.is(away + " above by " + width, s.lender(0, 4), away <= width ? 4 - away : -1);
            }
        }
    }

    /** Columns and rows are bounded each for itself: a corner of the square is near enough, and nothing beyond. */
    private static void bothAway() {
        for (int width = 1; width <= 3; width++) {
            for (int down = -4; down <= 4; down++) {
                for (int right = -4; right <= 4; right++) {
                    boolean near = Math.max(Math.abs(down), Math.abs(right)) <= width;
                    if (down != 0 || right != 0) {
                        oneAway(width, 4 + right, 4 + down, near);
                    }
                }
            }
        }
    }

    private static void oneAway(int width, int x, int y, boolean near) {
        SeparateScreens s = new SeparateScreens(9, 9);
        s.width(width);
        Pages.dot(s, 4, 4, Pages.BLACK, 255);
        Pages.dot(s, x, y, Pages.YELLOW, 100);
        DUE.is("at " + x + " " + y + " by " + width, s.lender(4, 4), near ? x + 9 * y : -1);
    }

    private static void widthOfNothing() {
        SeparateScreens s = new SeparateScreens(3, 3);
        Pages.mix(s, -1, -1, 100, -1);
        s.paint(0, 0, 2, 2, false);
        s.colour(Pages.YELLOW, -1);
        Pages.dot(s, 1, 1, Pages.BLACK, 255);
        s.width(0);
        DUE.is("lender", s.lender(1, 1), -1);
        DUE.is("the trap's byte", s.plate(Pages.YELLOW, 1, 1, 1), 0);
        s.width(1);
        DUE.is("lender by 1", s.lender(1, 1), 1);
    }

    private static SeparateScreens around(int... places) {
        SeparateScreens s = new SeparateScreens(7, 7);
        s.width(3);
        Pages.dot(s, 3, 3, Pages.BLACK, 255);
        for (int i = 0; i < places.length; i += 2) {
            Pages.dot(s, places[i], places[i + 1], Pages.YELLOW, 100);
        }
        return s;
    }

    /** "the one of the least (columns away squared and rows away squared)". */
    private static void leastOfSquares() {
        DUE.is("8 before 9", around(0, 3, 5, 5).lender(3, 3), 5 + 7 * 5);
        DUE.is("9 before 10", around(0, 2, 3, 6).lender(3, 3), 3 + 7 * 6);
        DUE.is("4 before 5", around(2, 1, 3, 5).lender(3, 3), 3 + 7 * 5);
        DUE.is("2 before 4", around(3, 1, 4, 4).lender(3, 3), 4 + 7 * 4);
        DUE.is("1 before 2", around(2, 2, 3, 4).lender(3, 3), 3 + 7 * 4);
        DUE.is("13 before 18", around(0, 0, 6, 5).lender(3, 3), 6 + 7 * 5);
        DUE.is("the lightest does not matter", lightestFar().lender(3, 3), 4 + 7 * 3);
    }

    private static SeparateScreens lightestFar() {
        SeparateScreens s = around(1, 3);
        Pages.dot(s, 4, 3, Pages.MAGENTA, 255);
        return s;
    }

    /** "of these the topmost". */
    private static void topmost() {
        DUE.is("1 above, 1 beside and below", around(3, 4, 4, 3, 2, 3, 3, 2).lender(3, 3), 3 + 7 * 2);
        DUE.is("1 left and below", around(3, 4, 2, 3).lender(3, 3), 2 + 7 * 3);
        DUE.is("1 right and below", around(3, 4, 4, 3).lender(3, 3), 4 + 7 * 3);
        DUE.is("5, above to the right", around(1, 2, 5, 2, 4, 1).lender(3, 3), 4 + 7);
        DUE.is("2, above to the right", around(2, 4, 4, 2).lender(3, 3), 4 + 7 * 2);
    }

    /** "of these the leftmost". */
    private static void leftmost() {
        DUE.is("1 left and right", around(4, 3, 2, 3).lender(3, 3), 2 + 7 * 3);
        DUE.is("2 above", around(4, 2, 2, 2).lender(3, 3), 2 + 7 * 2);
        DUE.is("5 above", around(4, 1, 2, 1).lender(3, 3), 2 + 7);
        DUE.is("18 below", around(6, 6, 0, 6).lender(3, 3), 7 * 6);
    }

    /** In every corner of the page the trap looks at what the page has. */
    private static void edgesOfThePage() {
        int[][] corners = {{0, 0, 1, 1}, {15, 0, 14, 1}, {0, 11, 1, 10}, {15, 11, 14, 10}};
        for (int width = 1; width <= 3; width++) {
            for (int[] c : corners) {
                SeparateScreens s = new SeparateScreens(16, 12);
                s.width(width);
                Pages.dot(s, c[0], c[1], Pages.BLACK, 255);
                DUE.is("nothing near a corner", s.lender(c[0], c[1]), -1);
                Pages.dot(s, c[2], c[3], Pages.YELLOW, 100);
                DUE.is("near a corner", s.lender(c[0], c[1]), c[2] + 16 * c[3]);
                Pages.dot(s, c[0], c[1], Pages.YELLOW, 100);
                Pages.dot(s, c[2], c[3], Pages.BLACK, 255);
                DUE.is("a corner lends", s.lender(c[2], c[3]), c[0] + 16 * c[1]);
            }
        }
    }

    /** The end of a row is not beside the start of the next one. */
    private static void noWrapAround() {
        for (int width = 0; width <= 3; width++) {
            SeparateScreens s = new SeparateScreens(8, 3);
            s.width(width);
            Pages.dot(s, 0, 1, Pages.BLACK, 255);
            Pages.dot(s, 7, 0, Pages.YELLOW, 100);
            Pages.dot(s, 7, 1, Pages.YELLOW, 100);
            Pages.dot(s, 7, 2, Pages.YELLOW, 100);
            DUE.is("the first of a row by " + width, s.lender(0, 1), -1);
            Pages.dot(s, 0, 0, Pages.BLACK, 255);
            Pages.dot(s, 0, 2, Pages.BLACK, 255);
            DUE.is("the first point by " + width, s.lender(0, 0), -1);
            DUE.is("the first of the last row by " + width, s.lender(0, 2), -1);
        }
    }

    private static void onePoint() {
        SeparateScreens s = new SeparateScreens(1, 1);
        s.width(3);
        Pages.dot(s, 0, 0, Pages.BLACK, 255);
        DUE.is("the only point", s.lender(0, 0), -1);
        DUE.is("its trap", s.plate(Pages.BLACK, 0, 0, 1), 255);
    }

    /** "p has of each ink the greater of its own and q's": as much is as much. */
    private static void greaterOfBoth() {
        SeparateScreens s = Pages.withEightInks(2, 1);
        Pages.mix(s, 20, 5, 0, 200, 10, 11, 12, 0);
        s.paint(0, 0, 0, 0, false);
        Pages.mix(s, 10, 9, 60, 24, 10, 10, 13, 255);
        s.paint(1, 0, 1, 0, false);
        int[] due = {20, 9, 60, 200, 10, 11, 13, 255};
        DUE.is("lender", s.lender(0, 0), 1);
        for (int ink = 0; ink < 8; ink++) {
            DUE.is("the greater of ink " + ink, s.plate(ink, 0, 0, 1), due[ink]);
        }
    }

    /** Point 0 is a point as any other: -1, not 0, is none. */
    private static void firstPointLends() {
        SeparateScreens s = row(2);
        Pages.dot(s, 1, 0, Pages.BLACK, 200);
        Pages.dot(s, 0, 0, Pages.YELLOW, 100);
        DUE.is("lender", s.lender(1, 0), 0);
        DUE.is("the trap", s.plate(Pages.YELLOW, 1, 0, 1), 100);
        DUE.is("the trap, seen", s.seen(1, 0, 2, true), 33);
    }

    /** "Traps are told, and do not change plates". */
    private static void platesStay() {
        SeparateScreens s = row(2);
        Pages.dot(s, 0, 0, Pages.BLACK, 255);
        Pages.dot(s, 1, 0, Pages.YELLOW, 100);
        DUE.is("told", s.plate(Pages.YELLOW, 0, 0, 1), 100);
        DUE.is("seen", s.seen(0, 0, 2, true), 0);
        DUE.is("the point", s.plate(Pages.YELLOW, 0, 0, 0), 0);
        DUE.is("covered", s.covered(Pages.YELLOW), 100);
        DUE.is("packed", s.packed(Pages.YELLOW, 1), 0);
        s.limit(255);
        s.paint(0, 0, 0, 0, true);
        DUE.is("the trap has no part in the limit", s.plate(Pages.BLACK, 0, 0, 0), 255);
    }

    /** Promise 9: "what it was". */
    private static void whatItWas() {
        SeparateScreens s = row(1);
        DUE.is("at first", s.width(0), 1);
        DUE.is("after 0", s.width(3), 0);
        DUE.is("after 3", s.width(3), 3);
        DUE.is("after 3 again", s.width(2), 3);
        DUE.is("after 2", s.width(1), 2);
    }

    /** Promise 9: "0 .. 3 .. IllegalArgumentException". */
    private static void bounds() {
        SeparateScreens s = row(1);
        s.width(2);
        DUE.fails("-1", Due.ARGUMENT, () -> s.width(-1));
        DUE.fails("4", Due.ARGUMENT, () -> s.width(4));
        DUE.fails("the least", Due.ARGUMENT, () -> s.width(Integer.MIN_VALUE));
        DUE.fails("the most", Due.ARGUMENT, () -> s.width(Integer.MAX_VALUE));
        DUE.is("0", s.width(0), 2);
        DUE.is("3", s.width(3), 0);
    }
}
