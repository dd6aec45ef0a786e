/** Promises 1 to 6, 15 and 16: a new page, inks, the colour, painting, the limit and the plates. */
public final class PaintTest {
    private static final Due DUE = new Due();

    public static void main(String[] args) {
        newObject();
        sizesOfPages();
        inks();
        colours();
        overAndKnockOut();
        pointsPainted();
        limits();
        limitByBlack();
        limitByShrinking();
        limitOfWhatIsThere();
        plates();
        covered();
        packed();
        packedAtMost();
        DUE.end();
    }

    private static void newObject() {
        SeparateScreens s = new SeparateScreens(4, 3);
        for (int y = 0; y < 3; y++) {
            for (int x = 0; x < 4; x++) {
                Pages.point(DUE, "a new page", s, x, y, 0, 0, 0, 0);
            }
        }
        DUE.is("first limit", s.limit(2040), 2040);
        DUE.is("first width", s.width(1), 1);
        DUE.fails("no cell at first", Due.INDEX, () -> s.rank(0, -1));
        DUE.fails("four inks at first", Due.INDEX, () -> s.covered(4));
        DUE.is("ink 3 is there", s.covered(3), 0);
        DUE.is("first new ink", s.ink(0, 0, 0, 0), 4);
        DUE.is("first paint", s.paint(0, 0, 3, 2, false), 12);
        Pages.point(DUE, "the first colour has no ink", s, 1, 1, 0, 0, 0, 0, 0);
    }

    private static void sizesOfPages() {
        int[][] sizes = {
            {1, 1, 1, 1}, {16, 12, 16, 12}, {17, 13, 16, 12}, {0, 0, 1, 1}, {-7, 5, 1, 5}, {5, -7, 5, 1},
            {Integer.MAX_VALUE, Integer.MIN_VALUE, 16, 1}, {Integer.MIN_VALUE, Integer.MAX_VALUE, 1, 12}};
        for (int[] size : sizes) {
            SeparateScreens s = new SeparateScreens(size[0], size[1]);
            String what = "page of " + size[0] + " by " + size[1];
            DUE.is(what, s.paint(-100, -100, 100, 100, false), size[2] * size[3]);
            DUE.is(what + " last point", s.plate(0, size[2] - 1, size[3] - 1, 0), 0);
            DUE.fails(what + " column behind", Due.INDEX, () -> s.plate(0, size[2], 0, 0));
            DUE.fails(what + " row behind", Due.INDEX, () -> s.plate(0, 0, size[3], 0));
        }
    }

    private static void inks() {
        SeparateScreens s = new SeparateScreens(2, 2);
        DUE.fails("a is no byte", Due.ARGUMENT, () -> s.ink(-1, 0, 0, 0));
        DUE.fails("b is no byte", Due.ARGUMENT, () -> s.ink(0, 256, 0, 0));
        DUE.fails("c is no byte", Due.ARGUMENT, () -> s.ink(0, 0, -1, 0));
        DUE.fails("d is no byte", Due.ARGUMENT, () -> s.ink(0, 0, 0, 256));
        for (int number = 4; number < 8; number++) {
            int ink = number;
            DUE.fails("ink before it is made", Due.INDEX, () -> s.covered(ink));
            DUE.is("ink", s.ink(0, 255, number, 1), number);
            DUE.is("a new ink is nowhere", s.covered(number), 0);
        }
        DUE.fails("a ninth ink", Due.UNSUPPORTED, () -> s.ink(0, 0, 0, 0));
        DUE.fails("a ninth ink of no bytes", Due.ARGUMENT, () -> s.ink(0, 0, 0, 256));
        DUE.fails("no ink 8", Due.INDEX, () -> s.covered(8));
    }

    private static void colours() {
        SeparateScreens s = new SeparateScreens(1, 1);
        Pages.mix(s, 0, 255, 7, 8);
        DUE.fails("256", Due.ARGUMENT, () -> s.colour(0, 256));
        DUE.fails("-2", Due.ARGUMENT, () -> s.colour(0, -2));
        DUE.fails("-2 of no ink", Due.ARGUMENT, () -> s.colour(4, -2));
        DUE.fails("ink 4", Due.INDEX, () -> s.colour(4, 0));
        DUE.fails("ink -1", Due.INDEX, () -> s.colour(-1, -1));
        s.paint(0, 0, 0, 0, false);
        Pages.point(DUE, "colour", s, 0, 0, 0, 255, 7, 8);
        s.colour(1, -1);
        s.paint(0, 0, 0, 0, false);
        Pages.point(DUE, "colour without ink 1", s, 0, 0, 0, 0, 7, 8);
    }

    private static void overAndKnockOut() {
        SeparateScreens s = new SeparateScreens(2, 1);
        s.ink(1, 2, 3, 4);
        Pages.mix(s, 10, 20, 30, 40, 50);
        s.paint(0, 0, 1, 0, false);
        Pages.mix(s, -1, 99, 0, -1, -1);
        s.paint(0, 0, 0, 0, true);
        Pages.point(DUE, "over", s, 0, 0, 10, 99, 0, 40, 50);
        s.paint(1, 0, 1, 0, false);
        Pages.point(DUE, "knocked out", s, 1, 0, 0, 99, 0, 0, 0);
    }

    private static void pointsPainted() {
        SeparateScreens s = new SeparateScreens(5, 4);
        s.colour(0, 1);
        DUE.is("one point", s.paint(2, 1, 2, 1, false), 1);
        DUE.is("one covered", s.covered(0), 1);
        DUE.is("both corners count", s.paint(1, 1, 3, 2, false), 6);
        DUE.is("six covered", s.covered(0), 6);
        DUE.is("left of it is free", s.plate(0, 0, 1, 0), 0);
        DUE.is("the last corner is painted", s.plate(0, 3, 2, 0), 1);
        DUE.is("only what the page has", s.paint(4, 3, 9, 9, false), 1);
        DUE.is("nothing beside the page", s.paint(5, 0, 9, 3, false), 0);
        DUE.is("nothing above the page", s.paint(0, -9, 4, -1, false), 0);
        DUE.is("columns backward", s.paint(3, 0, 1, 3, false), 0);
        DUE.is("rows backward", s.paint(0, 3, 4, 1, false), 0);
        DUE.is("seven covered", s.covered(0), 7);
        DUE.is("the widest", s.paint(Integer.MIN_VALUE, Integer.MIN_VALUE, Integer.MAX_VALUE, Integer.MAX_VALUE, false), 20);
    }

    private static void limits() {
        SeparateScreens s = new SeparateScreens(1, 1);
        DUE.is("limit", s.limit(0), 2040);
        DUE.fails("below", Due.ARGUMENT, () -> s.limit(-1));
        DUE.fails("above", Due.ARGUMENT, () -> s.limit(2041));
        DUE.is("limit after faults", s.limit(2040), 0);
        DUE.is("limit back", s.limit(5), 2040);
    }

    private static void limited(String what, int limit, int[] colour, int... due) {
        SeparateScreens s = new SeparateScreens(1, 1);
        for (int ink = 4; ink < colour.length; ink++) {
            s.ink(0, 0, 0, 0);
        }
        s.limit(limit);
        Pages.mix(s, colour);
        s.paint(0, 0, 0, 0, false);
        Pages.point(DUE, what, s, 0, 0, due);
    }

    private static void limitByBlack() {
        limited("just the limit", 500, new int[] {200, 100, 150, 50}, 200, 100, 150, 50);
        limited("one too much", 499, new int[] {200, 100, 150, 50}, 199, 99, 149, 51);
        limited("half of what is too much", 300, new int[] {200, 100, 150, 50}, 100, 0, 50, 150);
        limited("half upward", 301, new int[] {200, 100, 150, 50}, 100, 0, 50, 150);
        limited("half upward of three", 497, new int[] {200, 100, 150, 50}, 198, 98, 148, 52);
    }

    private static void limitByShrinking() {
        limited("no least ink", 200, new int[] {200, 0, 100, 50}, 100, 0, 50, 50);
        limited("quotients downward", 100, new int[] {100, 50, 0, 0}, 66, 33, 0, 0);
        limited("black above the limit", 100, new int[] {10, 0, 0, 200}, 0, 0, 0, 100);
        limited("black alone", 0, new int[] {0, 0, 0, 200}, 0, 0, 0, 0);
        limited("black is full", 400, new int[] {100, 100, 100, 250}, 48, 48, 48, 255);
        limited("the least of three, then less", 200, new int[] {110, 10, 60, 140}, 33, 0, 16, 150);
        limited("a new ink counts", 100, new int[] {0, 0, 0, 0, 200}, 0, 0, 0, 0, 100);
        limited("a new ink shrinks", 300, new int[] {60, 10, 10, 40, 150, 250}, 27, 0, 0, 50, 83, 138);
        limited("no ink at all", 0, new int[] {255, 255, 255, 255, 255, 255, 255, 255}, 0, 0, 0, 0, 0, 0, 0, 0);
        limited("all of it", 2040, new int[] {255, 255, 255, 255, 255, 255, 255, 255}, 255, 255, 255, 255, 255, 255, 255, 255);
    }

    private static void limitOfWhatIsThere() {
        SeparateScreens s = new SeparateScreens(2, 1);
        Pages.mix(s, 100, 50, 0, 0);
        s.paint(0, 0, 1, 0, false);
        Pages.mix(s, -1, -1, -1, -1);
        s.limit(100);
        Pages.point(DUE, "a limit changes nothing by itself", s, 0, 0, 100, 50, 0, 0);
        DUE.is("over with no ink", s.paint(0, 0, 0, 0, true), 1);
        Pages.point(DUE, "over with no ink is limited", s, 0, 0, 66, 33, 0, 0);
        Pages.point(DUE, "beside it is not", s, 1, 0, 100, 50, 0, 0);
    }

    private static void plates() {
        SeparateScreens s = new SeparateScreens(2, 1);
        Pages.mix(s, -1, -1, 200, -1);
        s.paint(0, 0, 0, 0, false);
        Pages.mix(s, -1, -1, -1, 100);
        s.paint(1, 0, 1, 0, false);
        s.gain(100, 150);
        DUE.is("way 0", s.plate(2, 1, 0, 0), 0);
        DUE.is("way 1", s.plate(2, 1, 0, 1), 200);
        DUE.is("way 2", s.plate(3, 1, 0, 2), 150);
        DUE.is("way 2 without the trap", s.plate(2, 1, 0, 2), 0);
        DUE.is("way 3", s.plate(2, 1, 0, 3), 150 + 105 * 100 / 155);
        DUE.is("traps do not change plates", s.covered(2), 200);
        DUE.fails("way -1", Due.ARGUMENT, () -> s.plate(0, 0, 0, -1));
        DUE.fails("way 4", Due.ARGUMENT, () -> s.plate(0, 0, 0, 4));
        DUE.fails("way 4 of nothing", Due.ARGUMENT, () -> s.plate(9, -1, 0, 4));
        DUE.fails("no ink", Due.INDEX, () -> s.plate(4, 0, 0, 1));
        DUE.fails("ink -1", Due.INDEX, () -> s.plate(-1, 0, 0, 0));
        DUE.fails("column -1", Due.INDEX, () -> s.plate(0, -1, 0, 0));
        DUE.fails("row -1", Due.INDEX, () -> s.plate(0, 0, -1, 3));
    }

    private static void covered() {
        SeparateScreens s = new SeparateScreens(16, 12);
        Pages.mix(s, 255, 1, -1, -1);
        s.paint(0, 0, 15, 11, false);
        DUE.is("all of it", s.covered(0), 255 * 192);
        DUE.is("one each", s.covered(1), 192);
        DUE.is("none", s.covered(2), 0);
        DUE.fails("ink -1", Due.INDEX, () -> s.covered(-1));
        DUE.fails("ink 4", Due.INDEX, () -> s.covered(4));
    }

    private static void packed() {
        SeparateScreens s = new SeparateScreens(4, 2);
        s.colour(0, 200);
        s.paint(0, 0, 1, 0, false);
        s.colour(0, 7);
        s.paint(2, 0, 2, 0, false);
        int[] due = {2, 200, 1, 7, 1, 0, 4, 0};
        DUE.is("how many bytes", s.packed(0, -1), due.length);
        for (int i = 0; i < due.length; i++) {
            DUE.is("packed byte " + i, s.packed(0, i), due[i]);
        }
        DUE.is("another ink", s.packed(1, -1), 4);
        for (int i : new int[] {8, 9, 1000, -2, -3, Integer.MAX_VALUE, Integer.MIN_VALUE}) {
            DUE.fails("packed byte " + i, Due.INDEX, () -> s.packed(0, i));
        }
        DUE.fails("ink 4", Due.INDEX, () -> s.packed(4, -1));
        DUE.fails("ink -1", Due.INDEX, () -> s.packed(-1, 0));
        s.gain(0, 99);
        DUE.is("packed without the curve", s.packed(0, 5), 0);
    }

    private static void packedAtMost() {
        SeparateScreens s = new SeparateScreens(16, 12);
        for (int x = 0; x < 16; x++) {
            s.colour(0, 240 + x);
            s.paint(x, 0, x, 11, false);
        }
        DUE.is("the most bytes", s.packed(0, -1), 384);
        DUE.is("the last run", s.packed(0, 382), 1);
        DUE.is("the last byte", s.packed(0, 383), 255);
        DUE.fails("one behind", Due.INDEX, () -> s.packed(0, 384));
    }
}
