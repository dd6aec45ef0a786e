/** The edges of promise 10: the curve's points, its ends, and what lies between. */
public final class CurveEdgeTest {
    private static final Due DUE = new Due();

    public static void main(String[] args) {
        everyByteAtFirst();
        placesFrom0To255();
        valuesFrom0To255();
        noBytes();
        firstAndLastInPlace();
        besideTheEnds();
        neighbours();
        risingDownward();
        fallingTowardZero();
        fromEndToEnd();
        inPlaceOfOne();
        anyOrder();
        twelfthPoint();
        thirteenthPoint();
        inPlaceOfOneOfTwelve();
        inPlaceBeforeItIsFull();
        bothWays();
        DUE.end();
    }

    private static void bent(String what, SeparateScreens s, int value, int due) {
        Pages.dot(s, 0, 0, 0, value);
        DUE.is(what + ", " + value, s.plate(0, 0, 0, 2), due);
        DUE.is(what + ", " + value + " by itself", s.plate(0, 0, 0, 0), value);
    }

    private static SeparateScreens curve(int... points) {
        SeparateScreens s = new SeparateScreens(1, 1);
        for (int i = 0; i < points.length; i += 2) {
            s.gain(points[i], points[i + 1]);
        }
        return s;
    }

    /** "at first 0 to 0, 255 to 255 alone": a byte becomes itself. */
    private static void everyByteAtFirst() {
        for (int first = 0; first < 256; first += 64) {
            SeparateScreens s = curve();
            for (int value = first; value < first + 64; value++) {
                bent("the first curve", s, value, value);
            }
        }
    }

    /** "IllegalArgumentException when one is no byte": v may be 0 and 255. */
    private static void placesFrom0To255() {
        SeparateScreens s = curve(0, 7, 255, 8);
        bent("v 0", s, 0, 7);
        bent("v 255", s, 255, 8);
        DUE.fails("v -1", Due.ARGUMENT, () -> s.gain(-1, 0));
        DUE.fails("v 256", Due.ARGUMENT, () -> s.gain(256, 0));
        bent("v 0 after faults", s, 0, 7);
        bent("v 255 after faults", s, 255, 8);
    }

    /** "IllegalArgumentException when one is no byte": w may be 0 and 255. */
    private static void valuesFrom0To255() {
        SeparateScreens s = curve(100, 0, 200, 255);
        bent("w 0", s, 100, 0);
        bent("w 255", s, 200, 255);
        DUE.fails("w -1", Due.ARGUMENT, () -> s.gain(100, -1));
        DUE.fails("w 256", Due.ARGUMENT, () -> s.gain(200, 256));
        bent("w 0 after faults", s, 100, 0);
        bent("w 255 after faults", s, 200, 255);
    }

    private static void noBytes() {
        SeparateScreens s = curve();
        for (int no : new int[] {Integer.MIN_VALUE, -256, -1, 256, 511, Integer.MAX_VALUE}) {
            DUE.fails("v " + no, Due.ARGUMENT, () -> s.gain(no, 5));
            DUE.fails("w " + no, Due.ARGUMENT, () -> s.gain(5, no));
            DUE.fails("both " + no, Due.ARGUMENT, () -> s.gain(no, no));
        }
        bent("after faults", s, 5, 5);
    }

    /** "(in place of one for v)", where that is the first or the last. */
    private static void firstAndLastInPlace() {
        SeparateScreens s = curve(0, 255, 255, 0);
        bent("turned round", s, 0, 255);
        bent("turned round", s, 1, 254);
        bent("turned round", s, 127, 128);
        bent("turned round", s, 254, 1);
        bent("turned round", s, 255, 0);
    }

    private static void besideTheEnds() {
        SeparateScreens s = curve(1, 255, 254, 0);
        bent("beside the ends", s, 0, 0);
        bent("beside the ends", s, 1, 255);
        bent("beside the ends", s, 2, 254);
        bent("beside the ends", s, 253, 2);
        bent("beside the ends", s, 254, 0);
        bent("beside the ends", s, 255, 255);
    }

    /** Two points with no byte between them. */
    private static void neighbours() {
        SeparateScreens s = curve(100, 200, 101, 10, 102, 255);
        bent("neighbours", s, 99, 198);
        bent("neighbours", s, 100, 200);
        bent("neighbours", s, 101, 10);
        bent("neighbours", s, 102, 255);
        bent("neighbours", s, 103, 255);
    }

    /** "w + (w2 - w) (b - v) / (v2 - v)": 10 / 3 and 20 / 3 are 3 and 6. */
    private static void risingDownward() {
        SeparateScreens s = curve(3, 10);
        bent("rising", s, 1, 3);
        bent("rising", s, 2, 6);
        bent("rising", s, 3, 10);
    }

    /** "the quotient toward 0": -10 / 3 and -20 / 3 are -3 and -6. */
    private static void fallingTowardZero() {
        SeparateScreens s = curve(0, 10, 3, 0);
        bent("falling", s, 1, 7);
        bent("falling", s, 2, 4);
        bent("falling", s, 3, 0);
        SeparateScreens slow = curve(0, 1, 255, 0);
        bent("falling slowly", slow, 1, 1);
        bent("falling slowly", slow, 254, 1);
        bent("falling slowly", slow, 255, 0);
    }

    private static void fromEndToEnd() {
        SeparateScreens s = curve(0, 9, 255, 9);
        bent("flat", s, 0, 9);
        bent("flat", s, 100, 9);
        bent("flat", s, 255, 9);
        SeparateScreens slow = curve(255, 1);
        bent("rising slowly", slow, 254, 0);
        bent("rising slowly", slow, 255, 1);
    }

    /** "(in place of one for v)": the point before is gone. */
    private static void inPlaceOfOne() {
        SeparateScreens s = curve(128, 50, 128, 200);
        bent("in place", s, 128, 200);
        bent("in place", s, 64, 100);
        s.gain(128, 128);
        bent("in place again", s, 128, 128);
        bent("in place again", s, 64, 64);
    }

    /** "v rising", in whatever order they came. */
    private static void anyOrder() {
        SeparateScreens s = curve(200, 20, 50, 5, 100, 255, 150, 0, 25, 50);
        bent("any order", s, 25, 50);
        bent("any order", s, 50, 5);
        bent("any order", s, 100, 255);
        bent("any order", s, 150, 0);
        bent("any order", s, 200, 20);
        bent("any order", s, 175, 10);
    }

    /** Ten points beside the first and the last: 20 to 250, 40 to 240, .. 200 to 160. */
    private static SeparateScreens fullCurve() {
        SeparateScreens s = curve();
        for (int i = 1; i <= 10; i++) {
            s.gain(20 * i, 260 - 10 * i);
        }
        return s;
    }

    private static void twelfthPoint() {
        SeparateScreens s = fullCurve();
        for (int i = 1; i <= 10; i++) {
            bent("twelve points", s, 20 * i, 260 - 10 * i);
        }
        bent("twelve points", s, 0, 0);
        bent("twelve points", s, 255, 255);
        bent("twelve points", s, 190, 165);
    }

    /** "UnsupportedOperationException when it would have more than 12". */
    private static void thirteenthPoint() {
        SeparateScreens s = fullCurve();
        for (int v : new int[] {1, 19, 21, 110, 199, 201, 254}) {
            DUE.fails("a thirteenth for " + v, Due.UNSUPPORTED, () -> s.gain(v, 0));
            DUE.fails("a thirteenth for " + v + " of no byte", Due.ARGUMENT, () -> s.gain(v, 256));
        }
        DUE.fails("a thirteenth for -1", Due.ARGUMENT, () -> s.gain(-1, 0));
        DUE.fails("a thirteenth for 256", Due.ARGUMENT, () -> s.gain(256, 0));
        bent("after faults", s, 1, 12);
        bent("after faults", s, 19, 237);
        bent("after faults", s, 21, 250);
        bent("after faults", s, 110, 205);
        bent("after faults", s, 201, 161);
        bent("after faults", s, 254, 253);
    }

    /** A full curve has still room "(in place of one for v)": the first, the last, and those between. */
    private static void inPlaceOfOneOfTwelve() {
        SeparateScreens s = fullCurve();
        s.gain(0, 30);
        s.gain(20, 31);
        s.gain(100, 32);
        s.gain(200, 33);
        s.gain(255, 34);
        bent("in place", s, 0, 30);
        bent("in place", s, 20, 31);
        bent("in place", s, 40, 240);
        bent("in place", s, 100, 32);
        bent("in place", s, 200, 33);
        bent("in place", s, 255, 34);
        DUE.fails("full still", Due.UNSUPPORTED, () -> s.gain(99, 0));
    }

    /** What comes in place of another takes no room: then the tenth fits and the next does not. */
    private static void inPlaceBeforeItIsFull() {
        SeparateScreens s = curve();
        for (int i = 0; i < 30; i++) {
            s.gain(50, i);
            s.gain(0, i);
            s.gain(255, i);
        }
        for (int i = 1; i <= 9; i++) {
            s.gain(100 + i, i);
        }
        DUE.fails("one more than twelve", Due.UNSUPPORTED, () -> s.gain(110, 10));
        bent("the last that fitted", s, 109, 9);
        bent("the last in place", s, 50, 29);
    }

    /** The curve is for way 2 and for way 3, of the trap too. */
    private static void bothWays() {
        SeparateScreens s = new SeparateScreens(2, 1);
        Pages.dot(s, 0, 0, Pages.BLACK, 255);
        Pages.dot(s, 1, 0, Pages.YELLOW, 255);
        s.gain(0, 11);
        s.gain(255, 22);
        DUE.is("way 2 of 0", s.plate(Pages.YELLOW, 0, 0, 2), 11);
        DUE.is("way 3 of 255", s.plate(Pages.YELLOW, 0, 0, 3), 22);
        DUE.is("way 2 of 255", s.plate(Pages.BLACK, 0, 0, 2), 22);
        DUE.is("way 3 of 0", s.plate(Pages.CYAN, 0, 0, 3), 11);
        DUE.is("way 0", s.plate(Pages.YELLOW, 1, 0, 0), 255);
        DUE.is("way 1", s.plate(Pages.YELLOW, 0, 0, 1), 255);
    }
}
