/** The edges of promises 6 and 7: plates by their ways, and bands of what is seen. */
public final class SeenEdgeTest {
    private static final Due DUE = new Due();

    public static void main(String[] args) {
        fourWays();
        waysOfTheEighthInk();
        otherWays();
        inksOfPlates();
        threeBands();
        paper();
        halfIsRounded();
        fullInkTakesAll();
        mixAndBlackTogether();
        blackOfAMixIsInEachBand();
        inksInOrder();
        eighthInkIsSeen();
        trapIsSeen();
        withoutLender();
        curveIsNotSeen();
        DUE.end();
    }

    /** Black beside yellow on a page of two points, with a curve that turns 200 to 10 and 100 to 150. */
    private static SeparateScreens blackByYellow() {
        SeparateScreens s = new SeparateScreens(2, 1);
        Pages.dot(s, 0, 0, Pages.BLACK, 200);
        Pages.dot(s, 1, 0, Pages.YELLOW, 100);
        s.gain(100, 150);
        s.gain(200, 10);
        s.gain(0, 3);
        return s;
    }

    /** "An ink's byte at a point (way 0), as its trap has it (1), as the curve makes that of way 0 (2), or of way 1 (3)". */
    private static void fourWays() {
        SeparateScreens s = blackByYellow();
        int[][] due = {{0, 0, 3, 3}, {0, 0, 3, 3}, {0, 100, 3, 150}, {200, 200, 10, 10}};
        int[][] lighter = {{0, 0, 3, 3}, {0, 0, 3, 3}, {100, 100, 150, 150}, {0, 0, 3, 3}};
        for (int ink = 0; ink < 4; ink++) {
            for (int way = 0; way < 4; way++) {
                DUE.is("black, ink " + ink + " way " + way, s.plate(ink, 0, 0, way), due[ink][way]);
                DUE.is("yellow, ink " + ink + " way " + way, s.plate(ink, 1, 0, way), lighter[ink][way]);
            }
        }
    }

    private static void waysOfTheEighthInk() {
        SeparateScreens s = Pages.withEightInks(2, 1);
        Pages.dot(s, 0, 0, Pages.BLACK, 200);
        Pages.dot(s, 1, 0, 7, 255);
        s.gain(255, 0);
        DUE.is("way 0", s.plate(7, 0, 0, 0), 0);
        DUE.is("way 1", s.plate(7, 0, 0, 1), 255);
        DUE.is("way 2", s.plate(7, 1, 0, 2), 0);
        DUE.is("way 3", s.plate(7, 0, 0, 3), 0);
        DUE.fails("ink 8", Due.INDEX, () -> s.plate(8, 0, 0, 0));
    }

    /** "IllegalArgumentException for another way", though there is no such ink or point. */
    private static void otherWays() {
        SeparateScreens s = blackByYellow();
        for (int no : new int[] {-1, 4, Integer.MIN_VALUE, Integer.MAX_VALUE}) {
            DUE.fails("way " + no, Due.ARGUMENT, () -> s.plate(0, 0, 0, no));
            DUE.fails("way " + no + " of no ink", Due.ARGUMENT, () -> s.plate(4, 0, 0, no));
            DUE.fails("way " + no + " of no point", Due.ARGUMENT, () -> s.plate(0, 2, 0, no));
            DUE.fails("way " + no + " of nothing", Due.ARGUMENT, () -> s.plate(-1, -1, -1, no));
        }
    }

    private static void inksOfPlates() {
        SeparateScreens s = blackByYellow();
        for (int i = 0; i < 4; i++) {
            int way = i;
            DUE.fails("ink -1", Due.INDEX, () -> s.plate(-1, 0, 0, way));
            DUE.fails("ink 4", Due.INDEX, () -> s.plate(4, 0, 0, way));
        }
        s.ink(0, 0, 0, 0);
        DUE.is("ink 4 when it is there", s.plate(4, 0, 0, 0), 0);
        DUE.fails("ink 5", Due.INDEX, () -> s.plate(5, 0, 0, 0));
    }

    /** "in BANDS 0 .. 2". */
    private static void threeBands() {
        SeparateScreens s = new SeparateScreens(1, 1);
        Pages.mix(s, 10, 20, 30, 0);
        s.paint(0, 0, 0, 0, false);
        DUE.is("band 0", s.seen(0, 0, 0, false), 245);
        DUE.is("band 1", s.seen(0, 0, 1, false), 235);
        DUE.is("band 2", s.seen(0, 0, 2, false), 225);
        for (int no : new int[] {-1, 3, Integer.MIN_VALUE, Integer.MAX_VALUE}) {
            DUE.fails("band " + no, Due.INDEX, () -> s.seen(0, 0, no, false));
            DUE.fails("band " + no + " of the trap", Due.INDEX, () -> s.seen(0, 0, no, true));
        }
    }

    /** "255 at first". */
    private static void paper() {
        SeparateScreens s = Pages.withEightInks(1, 1);
        for (int band = 0; band < 3; band++) {
            DUE.is("paper", s.seen(0, 0, band, false), 255);
            DUE.is("paper's trap", s.seen(0, 0, band, true), 255);
        }
    }

    /** "(itself * (65025 - v * m) + 32512) / 65025": 1 of 127 takes less than a half, 1 of 128 more. */
    private static void halfIsRounded() {
        SeparateScreens s = new SeparateScreens(1, 1);
        s.ink(127, 128, 0, 0);
        Pages.dot(s, 0, 0, 4, 1);
        DUE.is("1 of 127", s.seen(0, 0, 0, false), 255);
        DUE.is("1 of 128", s.seen(0, 0, 1, false), 254);
        DUE.is("1 of 0", s.seen(0, 0, 2, false), 255);
        Pages.dot(s, 0, 0, 0, 1);
        DUE.is("1 of 255", s.seen(0, 0, 0, false), 254);
    }

    private static void fullInkTakesAll() {
        SeparateScreens s = new SeparateScreens(1, 1);
        s.ink(255, 254, 1, 0);
        Pages.dot(s, 0, 0, 4, 255);
        DUE.is("255 of 255", s.seen(0, 0, 0, false), 0);
        DUE.is("255 of 254", s.seen(0, 0, 1, false), 1);
        DUE.is("255 of 1", s.seen(0, 0, 2, false), 254);
        Pages.dot(s, 0, 0, 4, 254);
        DUE.is("254 of 255", s.seen(0, 0, 0, false), 1);
        Pages.dot(s, 0, 0, 4, 0);
        DUE.is("0 of 255", s.seen(0, 0, 0, false), 255);
    }

    /** "m being the mix's band and its ink 3, together, 255 at most". */
    private static void mixAndBlackTogether() {
        SeparateScreens s = new SeparateScreens(1, 1);
        s.ink(99, 100, 101, 155);
        Pages.dot(s, 0, 0, 4, 255);
        DUE.is("254 together", s.seen(0, 0, 0, false), 1);
        DUE.is("255 together", s.seen(0, 0, 1, false), 0);
        DUE.is("256 together", s.seen(0, 0, 2, false), 0);
        Pages.dot(s, 0, 0, 4, 128);
        DUE.is("half of 254 together", s.seen(0, 0, 0, false), 128);
        DUE.is("half of 255 together", s.seen(0, 0, 1, false), 127);
        DUE.is("half of 256 together", s.seen(0, 0, 2, false), 127);
        s.ink(255, 0, 255, 255);
        Pages.dot(s, 0, 0, 5, 128);
        DUE.is("half of 510 together", s.seen(0, 0, 0, false), 127);
        DUE.is("half of black alone", s.seen(0, 0, 1, false), 127);
    }

    private static void blackOfAMixIsInEachBand() {
        SeparateScreens s = new SeparateScreens(1, 1);
        s.ink(0, 0, 0, 1);
        Pages.dot(s, 0, 0, 4, 255);
        for (int band = 0; band < 3; band++) {
            DUE.is("1 of black", s.seen(0, 0, band, false), 254);
        }
    }

    /** "for each ink in order": 1 of 255 and then 1 of 128 take one, the other way round two. */
    private static void inksInOrder() {
        SeparateScreens s = new SeparateScreens(1, 1);
        s.ink(255, 128, 0, 0);
        s.ink(128, 255, 0, 0);
        Pages.dot(s, 0, 0, 4, 1);
        Pages.over(s, 0, 0, 5, 1);
        DUE.is("255, then 128", s.seen(0, 0, 0, false), 254);
        DUE.is("128, then 255", s.seen(0, 0, 1, false), 253);
    }

    private static void eighthInkIsSeen() {
        SeparateScreens s = new SeparateScreens(1, 1);
        for (int ink = 4; ink < 8; ink++) {
            s.ink(ink == 7 ? 100 : 0, 0, 0, 0);
        }
        Pages.dot(s, 0, 0, 7, 255);
        DUE.is("ink 7", s.seen(0, 0, 0, false), 155);
    }

    /** "its trap: of the inks that that has". */
    private static void trapIsSeen() {
        SeparateScreens s = blackByYellow();
        DUE.is("the point", s.seen(0, 0, 2, false), 55);
        DUE.is("its trap, 155 of 255 and then black", s.seen(0, 0, 2, true), 33);
        DUE.is("its trap in band 0", s.seen(0, 0, 0, true), 55);
        s.width(0);
        DUE.is("its trap by no width", s.seen(0, 0, 2, true), 55);
    }

    /** "Without such a q it has its own". */
    private static void withoutLender() {
        SeparateScreens s = blackByYellow();
        DUE.is("none lends", s.lender(1, 0), -1);
        for (int band = 0; band < 3; band++) {
            DUE.is("seen", s.seen(1, 0, band, true), s.seen(1, 0, band, false));
        }
        for (int ink = 0; ink < 4; ink++) {
            DUE.is("plate", s.plate(ink, 1, 0, 1), s.plate(ink, 1, 0, 0));
            DUE.is("plate by the curve", s.plate(ink, 1, 0, 3), s.plate(ink, 1, 0, 2));
        }
    }

    /** What is seen is of the bytes there, not of what the curve makes of them. */
    private static void curveIsNotSeen() {
        SeparateScreens s = new SeparateScreens(1, 1);
        Pages.dot(s, 0, 0, Pages.BLACK, 55);
        s.gain(0, 255);
        s.gain(55, 0);
        DUE.is("seen", s.seen(0, 0, 0, false), 200);
    }
}
