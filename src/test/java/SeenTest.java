/** Promises 7 to 10: what is seen, the trap's lender, its width, and the curve. */
public final class SeenTest {
    private static final Due DUE = new Due();

    public static void main(String[] args) {
        seenOfFourInks();
        seenOfNewInks();
        seenOfTraps();
        wrongSeen();
        lenderOfTwo();
        unlikePoints();
        lightnessDecides();
        nearestTopmostLeftmost();
        widths();
        trapTakesTheGreater();
        curve();
        curveFalls();
        curveIsFull();
        DUE.end();
    }

    private static void bands(String what, SeparateScreens s, int r, int g, int b) {
        DUE.is(what + ", band 0", s.seen(0, 0, 0, false), r);
        DUE.is(what + ", band 1", s.seen(0, 0, 1, false), g);
        DUE.is(what + ", band 2", s.seen(0, 0, 2, false), b);
    }

    private static void seenOfFourInks() {
        SeparateScreens s = new SeparateScreens(1, 1);
        bands("paper", s, 255, 255, 255);
        Pages.dot(s, 0, 0, 0, 255);
        bands("cyan", s, 0, 255, 255);
        Pages.dot(s, 0, 0, 1, 255);
        bands("magenta", s, 255, 0, 255);
        Pages.dot(s, 0, 0, Pages.YELLOW, 255);
        bands("yellow", s, 255, 255, 0);
        Pages.dot(s, 0, 0, Pages.BLACK, 128);
        bands("half black", s, 127, 127, 127);
        Pages.dot(s, 0, 0, Pages.BLACK, 127);
        bands("half black less", s, 128, 128, 128);
        Pages.dot(s, 0, 0, 0, 100);
        Pages.over(s, 0, 0, Pages.BLACK, 100);
        bands("cyan, then black", s, 94, 155, 155);
    }

    private static void seenOfNewInks() {
        SeparateScreens s = new SeparateScreens(1, 1);
        s.ink(100, 0, 55, 200);
        Pages.dot(s, 0, 0, 4, 255);
        bands("a mix with black, 255 at most", s, 0, 55, 0);
        s.ink(10, 20, 30, 0);
        Pages.dot(s, 0, 0, 5, 255);
        bands("a mix without black", s, 245, 235, 225);
        Pages.over(s, 0, 0, 4, 255);
        bands("both", s, 0, 51, 0);
    }

    private static void seenOfTraps() {
        SeparateScreens s = new SeparateScreens(2, 1);
        Pages.dot(s, 1, 0, Pages.YELLOW, 255);
        Pages.dot(s, 0, 0, Pages.BLACK, 100);
        DUE.is("without the trap", s.seen(0, 0, 2, false), 155);
        DUE.is("with the trap", s.seen(0, 0, 2, true), 0);
        DUE.is("with the trap, another band", s.seen(0, 0, 0, true), 155);
        DUE.is("the lighter has none", s.seen(1, 0, 0, true), 255);
    }

    private static void wrongSeen() {
        SeparateScreens s = new SeparateScreens(3, 2);
        int[][] places = {{3, 0, 0}, {0, 2, 0}, {-1, 0, 0}, {0, -1, 0}, {0, 0, -1}, {0, 0, 3}, {9, 9, 9}};
        for (int[] p : places) {
            DUE.fails("seen " + p[0] + " " + p[1] + " " + p[2], Due.INDEX, () -> s.seen(p[0], p[1], p[2], false));
            DUE.fails("seen of the trap", Due.INDEX, () -> s.seen(p[0], p[1], p[2], true));
        }
        for (int i = 0; i < 4; i++) {
            int[] p = places[i];
            DUE.fails("lender " + p[0] + " " + p[1], Due.INDEX, () -> s.lender(p[0], p[1]));
        }
    }

    private static void lenderOfTwo() {
        SeparateScreens s = new SeparateScreens(3, 2);
        DUE.is("paper lends nothing", s.lender(1, 1), -1);
        Pages.dot(s, 2, 1, Pages.BLACK, 255);
        DUE.is("paper lends nothing to black", s.lender(2, 1), -1);
        Pages.dot(s, 1, 0, Pages.YELLOW, 255);
        DUE.is("yellow lends to black", s.lender(2, 1), 1);
        DUE.is("black lends nothing", s.lender(1, 0), -1);
        DUE.is("paper borrows nothing", s.lender(0, 0), -1);
    }

    private static void unlikePoints() {
        SeparateScreens s = new SeparateScreens(2, 1);
        Pages.dot(s, 0, 0, Pages.BLACK, 255);
        Pages.dot(s, 1, 0, Pages.YELLOW, 24);
        DUE.is("24 is no ink", s.lender(0, 0), -1);
        Pages.dot(s, 1, 0, Pages.YELLOW, 25);
        DUE.is("25 is ink", s.lender(0, 0), 1);
        Pages.over(s, 1, 0, Pages.BLACK, 24);
        DUE.is("24 in both", s.lender(0, 0), 1);
        Pages.over(s, 1, 0, Pages.BLACK, 25);
        DUE.is("25 in both", s.lender(0, 0), -1);
        Pages.dot(s, 1, 0, Pages.YELLOW, 30);
        Pages.dot(s, 0, 0, Pages.BLACK, 24);
        DUE.is("a point of 24 borrows nothing", s.lender(0, 0), -1);
        s.ink(0, 0, 0, 255);
        Pages.dot(s, 0, 0, 4, 25);
        DUE.is("a new ink counts", s.lender(0, 0), 1);
    }

    private static void lightnessDecides() {
        SeparateScreens s = new SeparateScreens(2, 1);
        Pages.dot(s, 0, 0, 0, 100);
        Pages.dot(s, 1, 0, 1, 100);
        DUE.is("magenta is darker than cyan", s.lender(0, 0), -1);
        DUE.is("cyan lends to magenta", s.lender(1, 0), 0);
        s.ink(100, 100, 100, 0);
        s.ink(100, 100, 100, 0);
        Pages.dot(s, 0, 0, 4, 100);
        Pages.dot(s, 1, 0, 5, 100);
        DUE.is("as light is not lighter", s.lender(0, 0), -1);
        DUE.is("as light is not lighter, back", s.lender(1, 0), -1);
        // Cyan has 24000 / 100 and magenta 24025 / 100: only the downward quotients are alike.
        Pages.dot(s, 0, 0, 0, 50);
        Pages.dot(s, 1, 0, 1, 25);
        DUE.is("240 and 240", s.lender(0, 0), -1);
        Pages.dot(s, 0, 0, 0, 51);
        DUE.is("239 and 240", s.lender(0, 0), 1);
    }

    private static void nearestTopmostLeftmost() {
        SeparateScreens s = new SeparateScreens(7, 7);
        s.width(3);
        Pages.dot(s, 3, 3, Pages.BLACK, 255);
        int[][] farToNear = {{6, 6}, {0, 6}, {6, 0}, {0, 0}, {3, 6}, {6, 3}, {0, 3}, {3, 0}, {5, 5}, {5, 1},
            {4, 5}, {1, 4}, {5, 2}, {1, 2}, {4, 1}, {2, 1}, {3, 5}, {5, 3}, {1, 3}, {3, 1},
            {4, 4}, {2, 4}, {4, 2}, {2, 2}, {3, 4}, {4, 3}, {2, 3}, {3, 2}};
        for (int[] q : farToNear) {
            Pages.dot(s, q[0], q[1], Pages.YELLOW, 100);
            DUE.is("nearest, topmost, leftmost at " + q[0] + " " + q[1], s.lender(3, 3), q[0] + 7 * q[1]);
        }
    }

    private static void widths() {
        SeparateScreens s = new SeparateScreens(9, 1);
        Pages.dot(s, 0, 0, Pages.BLACK, 255);
        Pages.dot(s, 8, 0, Pages.BLACK, 255);
        Pages.dot(s, 3, 0, Pages.YELLOW, 255);
        DUE.is("width", s.width(2), 1);
        DUE.is("too narrow", s.lender(0, 0), -1);
        DUE.is("width", s.width(3), 2);
        DUE.is("wide enough", s.lender(0, 0), 3);
        DUE.is("as wide as can be", s.lender(8, 0), -1);
        DUE.fails("4", Due.ARGUMENT, () -> s.width(4));
        DUE.fails("-1", Due.ARGUMENT, () -> s.width(-1));
        Pages.dot(s, 1, 0, Pages.YELLOW, 255);
        DUE.is("width", s.width(0), 3);
        DUE.is("no width", s.lender(0, 0), -1);
        DUE.is("width", s.width(1), 0);
        DUE.is("width of one", s.lender(0, 0), 1);
    }

    private static void trapTakesTheGreater() {
        SeparateScreens s = new SeparateScreens(2, 1);
        Pages.dot(s, 0, 0, Pages.BLACK, 200);
        Pages.over(s, 0, 0, 0, 20);
        Pages.over(s, 0, 0, 1, 5);
        Pages.dot(s, 1, 0, Pages.YELLOW, 60);
        Pages.over(s, 1, 0, 0, 10);
        Pages.over(s, 1, 0, 1, 9);
        int[] due = {20, 9, 60, 200};
        for (int ink = 0; ink < 4; ink++) {
            DUE.is("the greater of ink " + ink, s.plate(ink, 0, 0, 1), due[ink]);
        }
    }

    private static long bent(SeparateScreens s, int v) {
        Pages.dot(s, 0, 0, 0, v);
        return s.plate(0, 0, 0, 2);
    }

    private static void curve() {
        SeparateScreens s = new SeparateScreens(1, 1);
        for (int v = 0; v < 256; v += 5) {
            DUE.is("the first curve at " + v, bent(s, v), v);
        }
        s.gain(128, 100);
        DUE.is("64", bent(s, 64), 50);
        DUE.is("127", bent(s, 127), 99);
        DUE.is("128", bent(s, 128), 100);
        DUE.is("200", bent(s, 200), 187);
        s.gain(128, 200);
        DUE.is("in place of 128", bent(s, 128), 200);
        s.gain(64, 10);
        DUE.is("a point before another", bent(s, 96), 105);
        s.gain(0, 4);
        s.gain(255, 250);
        DUE.is("in place of 0", bent(s, 0), 4);
        DUE.is("in place of 255", bent(s, 255), 250);
        DUE.fails("v 256", Due.ARGUMENT, () -> s.gain(256, 0));
        DUE.fails("v -1", Due.ARGUMENT, () -> s.gain(-1, 0));
        DUE.fails("w 256", Due.ARGUMENT, () -> s.gain(0, 256));
        DUE.fails("w -1", Due.ARGUMENT, () -> s.gain(0, -1));
        DUE.is("as it was", bent(s, 0), 4);
    }

    private static void curveFalls() {
        SeparateScreens s = new SeparateScreens(1, 1);
        s.gain(0, 10);
        s.gain(3, 0);
        DUE.is("toward 0", bent(s, 1), 7);
        DUE.is("toward 0 again", bent(s, 2), 4);
        DUE.is("at its foot", bent(s, 3), 0);
    }

    private static void curveIsFull() {
        SeparateScreens s = new SeparateScreens(1, 1);
        for (int i = 10; i >= 1; i--) {
            s.gain(i * 20, 255 - i);
        }
        DUE.fails("a thirteenth", Due.UNSUPPORTED, () -> s.gain(19, 0));
        DUE.fails("a thirteenth that is no byte", Due.ARGUMENT, () -> s.gain(19, 300));
        s.gain(100, 7);
        s.gain(255, 9);
        DUE.is("in place of one of twelve", bent(s, 100), 7);
        DUE.is("in place of the last of twelve", bent(s, 255), 9);
        DUE.is("others stay", bent(s, 80), 251);
        DUE.is("between them", bent(s, 90), 251 - 122);
    }
}
