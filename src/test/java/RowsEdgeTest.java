/** The edges of promises 15 and 16: what an ink covers, and its plate as packed rows. */
public final class RowsEdgeTest {
    private static final Due DUE = new Due();

    public static void main(String[] args) {
        emptyAndFull();
        onePointEach();
        coveredByWay0();
        inksCovered();
        emptyPage();
        smallestPage();
        oneColumn();
        oneRow();
        runsEndWithTheirRow();
        longestRun();
        asLongAsCanBe();
        mostBytes();
        bytesUpTo255();
        bytesThatAreNotThere();
        packedByWay0();
        inksPacked();
        DUE.end();
    }

    /** "The sum of an ink's bytes on the page": from nothing to 255 of all points. */
    private static void emptyAndFull() {
        SeparateScreens s = Pages.withEightInks(16, 12);
        DUE.is("nothing", s.covered(7), 0);
        s.colour(7, 255);
        s.paint(0, 0, 15, 11, false);
        DUE.is("all", s.covered(7), 48960);
        DUE.is("another ink", s.covered(6), 0);
        s.colour(7, -1);
        s.paint(0, 0, 15, 11, false);
        DUE.is("nothing again", s.covered(7), 0);
    }

    /** The corners of the page count. */
    private static void onePointEach() {
        SeparateScreens s = new SeparateScreens(16, 12);
        Pages.dot(s, 0, 0, 0, 1);
        Pages.dot(s, 15, 0, 0, 2);
        Pages.dot(s, 0, 11, 0, 4);
        Pages.dot(s, 15, 11, 0, 8);
        DUE.is("four corners", s.covered(0), 15);
    }

    /** "(way 0)": neither the trap nor the curve. */
    private static void coveredByWay0() {
        SeparateScreens s = new SeparateScreens(2, 1);
        Pages.dot(s, 0, 0, Pages.BLACK, 200);
        Pages.dot(s, 1, 0, Pages.YELLOW, 100);
        s.gain(0, 50);
        s.gain(100, 60);
        DUE.is("yellow", s.covered(Pages.YELLOW), 100);
        DUE.is("cyan", s.covered(Pages.CYAN), 0);
    }

    /** Promise 15: "ArrayIndexOutOfBoundsException". */
    private static void inksCovered() {
        SeparateScreens s = new SeparateScreens(1, 1);
        for (int no : new int[] {-1, 4, 8, Integer.MIN_VALUE, Integer.MAX_VALUE}) {
            DUE.fails("ink " + no, Due.INDEX, () -> s.covered(no));
        }
        DUE.is("ink 0", s.covered(0), 0);
        DUE.is("ink 3", s.covered(3), 0);
    }

    private static void packed(String what, SeparateScreens s, int... due) {
        DUE.is(what + ", how many", s.packed(0, -1), due.length);
        for (int i = 0; i < due.length; i++) {
            DUE.is(what + ", byte " + i, s.packed(0, i), due[i]);
        }
        DUE.fails(what + ", one more", Due.INDEX, () -> s.packed(0, due.length));
    }

    private static void emptyPage() {
        packed("nothing", new SeparateScreens(5, 3), 5, 0, 5, 0, 5, 0);
    }

    private static void smallestPage() {
        SeparateScreens s = new SeparateScreens(1, 1);
        packed("one point", s, 1, 0);
        Pages.dot(s, 0, 0, 0, 255);
        packed("one full point", s, 1, 255);
    }

    private static void oneColumn() {
        SeparateScreens s = new SeparateScreens(1, 12);
        s.colour(0, 9);
        s.paint(0, 0, 0, 11, false);
        packed("one column", s, 1, 9, 1, 9, 1, 9, 1, 9, 1, 9, 1, 9, 1, 9, 1, 9, 1, 9, 1, 9, 1, 9, 1, 9);
    }

    private static void oneRow() {
        SeparateScreens s = new SeparateScreens(16, 1);
        packed("one row", s, 16, 0);
        Pages.dot(s, 0, 0, 0, 1);
        packed("its first point", s, 1, 1, 15, 0);
        Pages.dot(s, 15, 0, 0, 1);
        packed("its last point", s, 1, 1, 14, 0, 1, 1);
    }

    /** "for each row runs": a row that goes on as the one above it ended begins a new run. */
    private static void runsEndWithTheirRow() {
        SeparateScreens s = new SeparateScreens(3, 3);
        Pages.dot(s, 2, 0, 0, 7);
        Pages.dot(s, 0, 1, 0, 7);
        packed("end and start", s, 2, 0, 1, 7, 1, 7, 2, 0, 3, 0);
    }

    private static void longestRun() {
        SeparateScreens s = new SeparateScreens(16, 2);
        s.colour(0, 255);
        s.paint(0, 0, 15, 0, false);
        packed("a full row", s, 16, 255, 16, 0);
    }

    /** "runs of the same byte, as long as can be": also of points that were painted one by one. */
    private static void asLongAsCanBe() {
        SeparateScreens s = new SeparateScreens(6, 1);
        for (int x : new int[] {3, 1, 2}) {
            Pages.dot(s, x, 0, 0, 80);
        }
        packed("one by one", s, 1, 0, 3, 80, 2, 0);
        Pages.dot(s, 2, 0, 0, 81);
        packed("one apart", s, 1, 0, 1, 80, 1, 81, 1, 80, 2, 0);
    }

    /** No two points alike: 192 runs, 384 bytes. */
    private static void mostBytes() {
        SeparateScreens s = new SeparateScreens(16, 12);
        for (int x = 0; x < 16; x++) {
            Pages.mix(s, 2 * x + 1);
            s.paint(x, 0, x, 11, false);
        }
        DUE.is("how many", s.packed(0, -1), 384);
        for (int i = 250; i < 262; i++) {
            DUE.is("byte " + i, s.packed(0, i), i % 2 == 0 ? 1 : 2 * (i / 2 % 16) + 1);
        }
        DUE.is("the last run", s.packed(0, 382), 1);
        DUE.is("the last byte", s.packed(0, 383), 31);
        DUE.fails("one more", Due.INDEX, () -> s.packed(0, 384));
    }

    /** "byte i (0 .. 255)": as a number that is not below 0. */
    private static void bytesUpTo255() {
        SeparateScreens s = new SeparateScreens(4, 1);
        Pages.dot(s, 0, 0, 0, 127);
        Pages.dot(s, 1, 0, 0, 128);
        Pages.dot(s, 2, 0, 0, 254);
        Pages.dot(s, 3, 0, 0, 255);
        packed("great bytes", s, 1, 127, 1, 128, 1, 254, 1, 255);
    }

    /** Promise 16: "ArrayIndexOutOfBoundsException". */
    private static void bytesThatAreNotThere() {
        SeparateScreens s = new SeparateScreens(4, 2);
        DUE.is("how many", s.packed(0, -1), 4);
        DUE.is("the first", s.packed(0, 0), 4);
        DUE.is("the last", s.packed(0, 3), 0);
        for (int no : new int[] {-2, -3, 4, 5, 384, Integer.MIN_VALUE, Integer.MIN_VALUE + 1, Integer.MAX_VALUE}) {
            DUE.fails("byte " + no, Due.INDEX, () -> s.packed(0, no));
        }
    }

    /** "An ink's plate (way 0)": neither the trap nor the curve. */
    private static void packedByWay0() {
        SeparateScreens s = new SeparateScreens(2, 1);
        Pages.dot(s, 0, 0, Pages.BLACK, 200);
        Pages.dot(s, 1, 0, Pages.CYAN, 100);
        s.gain(0, 50);
        s.gain(100, 50);
        packed("cyan", s, 1, 0, 1, 100);
    }

    private static void inksPacked() {
        SeparateScreens s = Pages.withEightInks(2, 1);
        Pages.dot(s, 1, 0, 7, 5);
        DUE.is("ink 7", s.packed(7, -1), 4);
        DUE.is("its last byte", s.packed(7, 3), 5);
        DUE.is("ink 6", s.packed(6, -1), 2);
        for (int no : new int[] {-1, 8, Integer.MIN_VALUE, Integer.MAX_VALUE}) {
            DUE.fails("ink " + no, Due.INDEX, () -> s.packed(no, -1));
            DUE.fails("a byte of ink " + no, Due.INDEX, () -> s.packed(no, 0));
            DUE.fails("no byte of ink " + no, Due.INDEX, () -> s.packed(no, -2));
        }
    }
}
