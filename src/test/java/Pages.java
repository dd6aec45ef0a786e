/** Pages as tests need them: painted point by point. */
final class Pages {
    static final int CYAN = 0;
    static final int MAGENTA = 1;
    static final int YELLOW = 2;
    static final int BLACK = 3;

    private Pages() {
    }

    /** One point gets v of one ink and nothing else; the colour has no ink before and after. */
    static void dot(SeparateScreens s, int x, int y, int ink, int v) {
        s.colour(ink, v);
        s.paint(x, y, x, y, false);
        s.colour(ink, -1);
    }

    /** One point gets v of one ink and keeps the others. */
    static void over(SeparateScreens s, int x, int y, int ink, int v) {
        s.colour(ink, v);
        s.paint(x, y, x, y, true);
        s.colour(ink, -1);
    }

    /** The colour has these bytes of inks 0, 1, .. in order. */
    static void mix(SeparateScreens s, int... bytes) {
        for (int ink = 0; ink < bytes.length; ink++) {
            s.colour(ink, bytes[ink]);
        }
    }

    /** The point has these bytes of inks 0, 1, .. in order. */
    static void point(Due due, String what, SeparateScreens s, int x, int y, int... bytes) {
        for (int ink = 0; ink < bytes.length; ink++) {
            due.is(what + ", ink " + ink, s.plate(ink, x, y, 0), bytes[ink]);
        }
    }

    /** All eight inks, the new ones of no mix. */
    static SeparateScreens withEightInks(int width, int height) {
        SeparateScreens s = new SeparateScreens(width, height);
        for (int ink = 4; ink < 8; ink++) {
            s.ink(0, 0, 0, 0);
        }
        return s;
    }
}
