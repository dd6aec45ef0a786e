/** The edges of promise 5: the limit, and what is done with a point that has more than it. */
public final class LimitEdgeTest {
    private static final Due DUE = new Due();

    public static void main(String[] args) {
        moreThanTheLimit();
        sumOfAllInks();
        halfUpward();
        leastOfInks0To2();
        leastIsNotOfOtherInks();
        untilBlackIsFull();
        blackGetsWhatOthersLose();
        aboveTheLimitStill();
        everyPoint();
        quotientsDownward();
        notBelow0();
        blackAboveTheLimit();
        zeroStaysZero();
        limitOfNothing();
        limitOfAll();
        fromNowOn();
        overCountsWhatIsThere();
        whatItWas();
        bounds();
        DUE.end();
    }

    /** A point painted with the colour by the limit has these bytes; inks behind 3 are made as needed. */
    private static void limited(String what, int limit, int[] colour, int... due) {
        SeparateScreens s = new SeparateScreens(1, 1);
        for (int ink = 4; ink < colour.length; ink++) {
            s.ink(0, 0, 0, 0);
        }
        s.limit(limit);
        Pages.mix(s, colour);
        s.paint(0, 0, 0, 0, false);
        Pages.point(DUE, what, s, 0, 0, due);
    }

    private static int[] bytes(int... bytes) {
        return bytes;
    }

    /** "if the point has more than the LIMIT": just the limit is not more. */
    private static void moreThanTheLimit() {
        limited("one less", 241, bytes(60, 70, 80, 30), 60, 70, 80, 30);
        limited("just it", 240, bytes(60, 70, 80, 30), 60, 70, 80, 30);
        limited("one more", 239, bytes(60, 70, 80, 30), 59, 69, 79, 31);
    }

    /** "(its SUM, of all inks)": any one of them alone. */
    private static void sumOfAllInks() {
        for (int ink = 0; ink < 8; ink++) {
            int[] colour = new int[8];
            int[] kept = new int[8];
            colour[ink] = 101;
            kept[ink] = 100;
            limited("101 of ink " + ink, 100, colour, kept);
            colour[ink] = 100;
            limited("100 of ink " + ink, 100, colour, kept);
        }
        limited("two of eight", 255, bytes(0, 0, 0, 0, 128, 0, 0, 128), 0, 0, 0, 0, 127, 0, 0, 127);
    }

    /** "half of what is too much, upward". */
    private static void halfUpward() {
        limited("1 too much", 399, bytes(100, 100, 100, 100), 99, 99, 99, 101);
        limited("2 too much", 398, bytes(100, 100, 100, 100), 99, 99, 99, 101);
        limited("3 too much", 397, bytes(100, 100, 100, 100), 98, 98, 98, 102);
        limited("4 too much", 396, bytes(100, 100, 100, 100), 98, 98, 98, 102);
    }

    /** "the least of inks 0 to 2": each can be it, and there may be none. */
    private static void leastOfInks0To2() {
        limited("ink 0 is just enough", 170, bytes(10, 90, 90, 0), 0, 80, 80, 10);
        limited("ink 1 is just enough", 170, bytes(90, 10, 90, 0), 80, 0, 80, 10);
        limited("ink 2 is just enough", 170, bytes(90, 90, 10, 0), 80, 80, 0, 10);
        limited("ink 0 is one short", 169, bytes(9, 90, 90, 0), 0, 80, 80, 9);
        limited("ink 1 is one short", 169, bytes(90, 9, 90, 0), 80, 0, 80, 9);
        limited("ink 2 is one short", 169, bytes(90, 90, 9, 0), 80, 80, 0, 9);
        limited("none of ink 0", 170, bytes(0, 95, 95, 0), 0, 85, 85, 0);
        limited("none of ink 1", 170, bytes(95, 0, 95, 0), 85, 0, 85, 0);
        limited("none of ink 2", 170, bytes(95, 95, 0, 0), 85, 85, 0, 0);
    }

    /** "the least of inks 0 to 2": what there is of inks 4 to 7 does not count for it, and is not made less by it. */
    private static void leastIsNotOfOtherInks() {
        limited("less of ink 4", 265, bytes(100, 100, 100, 0, 5), 80, 80, 80, 20, 5);
        limited("none of ink 4 to 7", 260, bytes(100, 100, 100, 0, 0, 0, 0, 0), 80, 80, 80, 20, 0, 0, 0, 0);
        limited("more of ink 7", 460, bytes(100, 100, 100, 0, 0, 0, 0, 200), 80, 80, 80, 20, 0, 0, 0, 200);
    }

    /** "255 less ink 3": 1 can move, then none. */
    private static void untilBlackIsFull() {
        limited("just room enough", 532, bytes(90, 90, 100, 254), 89, 89, 99, 255);
        limited("room for one of two", 530, bytes(90, 90, 100, 254), 88, 88, 98, 255);
        limited("no room", 534, bytes(90, 90, 100, 255), 89, 89, 99, 255);
    }

    /** "Inks 0 to 2 get t less, ink 3 t more". */
    private static void blackGetsWhatOthersLose() {
        limited("all of the least", 300, bytes(200, 100, 150, 50), 100, 0, 50, 150);
        limited("all of all", 100, bytes(100, 100, 100, 0), 0, 0, 0, 100);
        limited("from none to full", 255, bytes(255, 255, 255, 0), 0, 0, 0, 255);
    }

    /** "If the sum is above the limit still": 49 0 49 1 is 99. What is below it then does not grow. */
    private static void aboveTheLimitStill() {
        limited("just the limit", 99, bytes(50, 1, 50, 0), 49, 0, 49, 1);
        limited("one above it", 98, bytes(50, 1, 50, 0), 48, 0, 48, 1);
        limited("one below it", 101, bytes(100, 1, 1, 0), 99, 0, 0, 1);
    }

    /** The same at every point of a page, its last one too. */
    private static void everyPoint() {
        SeparateScreens s = new SeparateScreens(16, 12);
        s.limit(100);
        Pages.mix(s, 30, 0, 20, 101);
        DUE.is("all points", s.paint(0, 0, 15, 11, false), 192);
        for (int[] p : new int[][] {{0, 0}, {1, 0}, {15, 0}, {0, 11}, {7, 5}, {15, 11}}) {
            Pages.point(DUE, "black too much at " + p[0] + " " + p[1], s, p[0], p[1], 0, 0, 0, 100);
        }
        Pages.mix(s, 50, 10, 50, 20);
        s.paint(0, 0, 15, 11, false);
        for (int[] p : new int[][] {{0, 0}, {1, 0}, {15, 0}, {0, 11}, {7, 5}, {15, 11}}) {
            Pages.point(DUE, "all too much at " + p[0] + " " + p[1], s, p[0], p[1], 35, 0, 35, 30);
        }
    }

    /** "All quotients are downward": 100 and 51 by 150 / 151 are 99.3 and 50.6. */
    private static void quotientsDownward() {
        limited("one too much", 150, bytes(100, 51, 0, 0), 99, 50, 0, 0);
        limited("a byte of 1", 100, bytes(100, 1, 0, 0), 99, 0, 0, 0);
        limited("eight inks by 100 / 350", 150, bytes(0, 50, 0, 50, 50, 50, 100, 100), 0, 14, 0, 50, 14, 14, 28, 28);
    }

    /** "(limit less ink 3, but not below 0)". */
    private static void notBelow0() {
        limited("1 above ink 3", 100, bytes(10, 0, 0, 99), 1, 0, 0, 99);
        limited("just ink 3", 100, bytes(10, 0, 0, 100), 0, 0, 0, 100);
        limited("1 below ink 3", 100, bytes(10, 0, 0, 101), 0, 0, 0, 100);
        limited("far below ink 3", 1, bytes(255, 0, 255, 255, 255), 0, 0, 0, 1, 0);
        limited("below what ink 3 became", 20, bytes(20, 15, 30, 10), 0, 0, 0, 20);
    }

    /** "then ink 3, if it is above the limit, is that": with nothing else there, too. */
    private static void blackAboveTheLimit() {
        limited("black below it", 100, bytes(0, 0, 0, 99), 0, 0, 0, 99);
        limited("black at it", 100, bytes(0, 0, 0, 100), 0, 0, 0, 100);
        limited("black above it", 100, bytes(0, 0, 0, 101), 0, 0, 0, 100);
        limited("full black", 254, bytes(0, 0, 0, 255), 0, 0, 0, 254);
        limited("black at it, with more", 100, bytes(0, 200, 0, 100), 0, 0, 0, 100);
    }

    /** "each ink but 3 that is not 0". */
    private static void zeroStaysZero() {
        limited("zeros", 300, bytes(0, 200, 0, 0, 0, 200, 0, 200), 0, 100, 0, 0, 0, 100, 0, 100);
    }

    /** A limit of 0, the least there is. */
    private static void limitOfNothing() {
        limited("nothing", 0, bytes(0, 0, 0, 0), 0, 0, 0, 0);
        limited("1 of cyan", 0, bytes(1, 0, 0, 0), 0, 0, 0, 0);
        limited("1 of black", 0, bytes(0, 0, 0, 1), 0, 0, 0, 0);
        limited("1 of three", 0, bytes(1, 1, 1, 0), 0, 0, 0, 0);
        limited("1 of the eighth", 0, bytes(0, 0, 0, 0, 0, 0, 0, 1), 0, 0, 0, 0, 0, 0, 0, 0);
        limited("all", 0, bytes(255, 255, 255, 255, 255, 255, 255, 255), 0, 0, 0, 0, 0, 0, 0, 0);
        limited("1 of cyan by 1", 1, bytes(1, 0, 0, 0), 1, 0, 0, 0);
        limited("2 of cyan by 1", 1, bytes(2, 0, 0, 0), 1, 0, 0, 0);
    }

    /** A limit of 2040 is all that eight inks can have; four have 1020. */
    private static void limitOfAll() {
        int[] full = bytes(255, 255, 255, 255, 255, 255, 255, 255);
        limited("2040 by 2040", 2040, full, full);
        limited("2040 by 2039", 2039, full, 254, 254, 254, 255, 254, 254, 254, 254);
        limited("1020 by 1020", 1020, bytes(255, 255, 255, 255), 255, 255, 255, 255);
        limited("1020 by 1019", 1019, bytes(255, 255, 255, 255), 254, 254, 254, 255);
    }

    /** "The limit for what is painted from now on". */
    private static void fromNowOn() {
        SeparateScreens s = new SeparateScreens(2, 1);
        Pages.mix(s, 100, 50, 0, 0);
        s.paint(0, 0, 1, 0, false);
        s.limit(75);
        Pages.point(DUE, "painted before", s, 0, 0, 100, 50, 0, 0);
        s.paint(0, 0, 0, 0, false);
        Pages.point(DUE, "painted again", s, 0, 0, 50, 25, 0, 0);
        Pages.point(DUE, "not painted again", s, 1, 0, 100, 50, 0, 0);
        s.limit(2040);
        Pages.point(DUE, "painted by the lower limit", s, 0, 0, 50, 25, 0, 0);
        s.paint(0, 0, 0, 0, false);
        Pages.point(DUE, "painted by the higher limit", s, 0, 0, 100, 50, 0, 0);
    }

    /** Inks that stay, since the colour prints over, count with those of the colour. */
    private static void overCountsWhatIsThere() {
        SeparateScreens s = new SeparateScreens(2, 1);
        Pages.mix(s, 60, 60, 60, 0);
        s.paint(0, 0, 1, 0, false);
        s.limit(200);
        Pages.mix(s, -1, -1, -1, 20);
        s.paint(0, 0, 0, 0, true);
        Pages.point(DUE, "just the limit", s, 0, 0, 60, 60, 60, 20);
        s.colour(3, 21);
        s.paint(1, 0, 1, 0, true);
        Pages.point(DUE, "one more", s, 1, 0, 59, 59, 59, 22);
        s.colour(3, -1);
        s.limit(199);
        DUE.is("over without ink", s.paint(0, 0, 0, 0, true), 1);
        Pages.point(DUE, "over without ink", s, 0, 0, 59, 59, 59, 21);
    }

    /** "what it was". */
    private static void whatItWas() {
        SeparateScreens s = new SeparateScreens(1, 1);
        DUE.is("at first", s.limit(0), 2040);
        DUE.is("after 0", s.limit(1), 0);
        DUE.is("after 1", s.limit(2039), 1);
        DUE.is("after 2039", s.limit(2040), 2039);
        DUE.is("after 2040", s.limit(2040), 2040);
    }

    /** "0 .. 2040 .. IllegalArgumentException". */
    private static void bounds() {
        SeparateScreens s = new SeparateScreens(1, 1);
        s.limit(33);
        DUE.fails("-1", Due.ARGUMENT, () -> s.limit(-1));
        DUE.fails("2041", Due.ARGUMENT, () -> s.limit(2041));
        DUE.fails("the least", Due.ARGUMENT, () -> s.limit(Integer.MIN_VALUE));
        DUE.fails("the most", Due.ARGUMENT, () -> s.limit(Integer.MAX_VALUE));
        DUE.is("0", s.limit(0), 33);
        DUE.is("2040", s.limit(2040), 0);
    }
}
