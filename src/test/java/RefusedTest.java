/**
 * "A call that throws changes nothing; where several exceptions that a call names fit, it is the one that it
 * names first." Each refused call is made on one of two like objects, which must then answer alike.
 */
public final class RefusedTest {
    private static final int LEAST = Integer.MIN_VALUE;
    private static final int MOST = Integer.MAX_VALUE;
    private static final int[] NO_BYTES = {-1, 256, LEAST, MOST};
    private static final int[] NO_COLUMNS = {-1, Probe.COLUMNS, LEAST, MOST};
    private static final int[] NO_ROWS = {-1, Probe.ROWS, LEAST, MOST};
    private static final Due DUE = new Due();

    private interface Step {
        void run(SeparateScreens s);
    }

    public static void main(String[] args) {
        changesAreShown();
        for (State state : State.values()) {
            inkOfNoBytes(state);
            colourOfNoByte(state);
            colourOfNoInk(state);
            limitOutside(state);
            plateOfNoWay(state);
            plateOfNothing(state);
            seenOfNothing(state);
            lenderOfNothing(state);
            widthOutside(state);
            gainOfNoBytes(state);
            cellOutside(state);
            cellOfNoSize(state);
            rankOfNothing(state);
            sameOfNoCell(state);
            sameTooFar(state);
            printsOfNothing(state);
            coveredOfNoInk(state);
            packedOfNothing(state);
        }
        ninthInk();
        thirteenthPoint();
        seventhCell();
        manyRefused();
        DUE.end();
    }

    private enum State {
        NEW(4, 0) {
            @Override
            SeparateScreens make() {
                return new SeparateScreens(Probe.COLUMNS, Probe.ROWS);
            }
        },
        HALF(5, 2) {
            @Override
            SeparateScreens make() {
                SeparateScreens s = NEW.make();
                s.ink(20, 40, 60, 80);
                Pages.dot(s, 0, 0, Pages.BLACK, 200);
                Pages.dot(s, 1, 0, Pages.YELLOW, 120);
                Pages.dot(s, 1, 1, 4, 90);
                s.gain(100, 150);
                s.gain(200, 180);
                s.cell(2, 1);
                s.cell(3, -1);
                s.width(2);
                s.limit(400);
                Pages.mix(s, 10, -1, 0, -1, 77);
                return s;
            }
        },
        FULL(8, 6) {
            @Override
            SeparateScreens make() {
                SeparateScreens s = NEW.make();
                for (int i = 0; i < 4; i++) {
                    s.ink(40 * i, 200 - 30 * i, 255, 10 * i);
                }
                Pages.mix(s, 255, 255, 255, 255, 255, 255, 255, 255);
                s.paint(0, 0, 2, 1, false);
                Pages.mix(s, -1, -1, -1, -1, -1, -1, -1, -1);
                Pages.dot(s, 1, 1, Pages.BLACK, 250);
                Pages.dot(s, 2, 1, 6, 60);
                for (int i = 1; i <= 10; i++) {
                    s.gain(20 * i, 255 - 20 * i);
                }
                for (int i = 0; i < 6; i++) {
                    s.cell(12 - i, 2 * i);
                }
                s.width(3);
                s.limit(0);
                Pages.mix(s, 1, 2, 3, 4, 5, 6, 0, 255);
                return s;
            }
        };

        final int inks;
        final int cells;

        State(int inks, int cells) {
            this.inks = inks;
            this.cells = cells;
        }

        abstract SeparateScreens make();

        int[] noInks() {
            return new int[] {-1, inks, LEAST, MOST};
        }

        int[] noCells() {
            return new int[] {-1, cells, LEAST, MOST};
        }
    }

    private static void refused(String what, Class<?> kind, State state, Step step) {
        SeparateScreens tried = state.make();
        String told = what + " of a " + state + " object";
        DUE.fails(told, kind, () -> step.run(tried));
        DUE.alike(told + " changed it", Probe.of(tried), Probe.of(state.make()));
    }

    /** A probe that overlooks a change would let every test here pass. */
    private static void changesAreShown() {
        shown("ink", State.HALF, s -> s.ink(0, 0, 0, 0));
        shown("paint", State.HALF, s -> s.paint(2, 1, 2, 1, false));
        for (State state : State.values()) {
            for (int i = 0; i < state.inks; i++) {
                int ink = i;
                shown("colour of ink " + ink, state, s -> s.colour(ink, 100));
            }
            shown("limit", state, s -> s.limit(7));
            shown("width", state, s -> s.width(0));
            shown("gain of 0", state, s -> s.gain(0, 1));
            shown("gain of 255", state, s -> s.gain(255, 254));
        }
        for (State state : new State[] {State.NEW, State.HALF}) {
            shown("gain of 128", state, s -> s.gain(128, 1));
            shown("cell", state, s -> s.cell(0, 1));
        }
    }

    private static void shown(String what, State state, Step step) {
        SeparateScreens changed = state.make();
        step.run(changed);
        DUE.is(what + " of a " + state + " object is shown", Probe.of(changed).equals(Probe.of(state.make())) ? 0 : 1, 1);
    }

    /** Promise 2: "IllegalArgumentException when one is no byte", with eight inks too, where both fit. */
    private static void inkOfNoBytes(State state) {
        for (int no : NO_BYTES) {
            refused("ink, a " + no, Due.ARGUMENT, state, s -> s.ink(no, 0, 255, 0));
            refused("ink, b " + no, Due.ARGUMENT, state, s -> s.ink(255, no, 0, 0));
            refused("ink, c " + no, Due.ARGUMENT, state, s -> s.ink(0, 255, no, 0));
            refused("ink, d " + no, Due.ARGUMENT, state, s -> s.ink(0, 0, 255, no));
        }
    }

    /** Promise 2: "UnsupportedOperationException when there are 8". */
    private static void ninthInk() {
        refused("ink", Due.UNSUPPORTED, State.FULL, s -> s.ink(0, 0, 0, 0));
        refused("ink", Due.UNSUPPORTED, State.FULL, s -> s.ink(255, 255, 255, 255));
    }

    /** Promise 3: "IllegalArgumentException when v is not -1 .. 255", of no ink too, where both fit. */
    private static void colourOfNoByte(State state) {
        for (int no : new int[] {-2, 256, LEAST, MOST}) {
            refused("colour, v " + no, Due.ARGUMENT, state, s -> s.colour(0, no));
            refused("colour of the last ink, v " + no, Due.ARGUMENT, state, s -> s.colour(state.inks - 1, no));
            for (int noInk : state.noInks()) {
                refused("colour of ink " + noInk + ", v " + no, Due.ARGUMENT, state, s -> s.colour(noInk, no));
            }
        }
    }

    /** Promise 3: "ArrayIndexOutOfBoundsException". */
    private static void colourOfNoInk(State state) {
        for (int noInk : state.noInks()) {
            for (int v : new int[] {-1, 0, 255}) {
                refused("colour of ink " + noInk + ", v " + v, Due.INDEX, state, s -> s.colour(noInk, v));
            }
        }
    }

    /** Promise 5: "0 .. 2040 .. IllegalArgumentException". */
    private static void limitOutside(State state) {
        for (int no : new int[] {-1, 2041, LEAST, MOST}) {
            refused("limit " + no, Due.ARGUMENT, state, s -> s.limit(no));
        }
    }

    /** Promise 6: "IllegalArgumentException for another way", of nothing too, where both fit. */
    private static void plateOfNoWay(State state) {
        for (int no : new int[] {-1, 4, LEAST, MOST}) {
            refused("plate, way " + no, Due.ARGUMENT, state, s -> s.plate(0, 0, 0, no));
            refused("plate of ink -1, way " + no, Due.ARGUMENT, state, s -> s.plate(-1, 0, 0, no));
            refused("plate of one ink more, way " + no, Due.ARGUMENT, state, s -> s.plate(state.inks, 0, 0, no));
            refused("plate at column -1, way " + no, Due.ARGUMENT, state, s -> s.plate(0, -1, 0, no));
            refused("plate at column 3, way " + no, Due.ARGUMENT, state, s -> s.plate(0, 3, 0, no));
            refused("plate at row -1, way " + no, Due.ARGUMENT, state, s -> s.plate(0, 0, -1, no));
            refused("plate at row 2, way " + no, Due.ARGUMENT, state, s -> s.plate(0, 0, 2, no));
        }
    }

    /** Promise 6: "ArrayIndexOutOfBoundsException", whatever the way is. */
    private static void plateOfNothing(State state) {
        for (int w = 0; w < 4; w++) {
            int way = w;
            for (int no : state.noInks()) {
                refused("plate of ink " + no + ", way " + way, Due.INDEX, state, s -> s.plate(no, 2, 1, way));
            }
            for (int no : NO_COLUMNS) {
                refused("plate at column " + no + ", way " + way, Due.INDEX, state, s -> s.plate(0, no, 1, way));
            }
            for (int no : NO_ROWS) {
                refused("plate at row " + no + ", way " + way, Due.INDEX, state, s -> s.plate(0, 2, no, way));
            }
        }
    }

    /** Promise 7: "ArrayIndexOutOfBoundsException": no such point, no such band. */
    private static void seenOfNothing(State state) {
        for (boolean trap : new boolean[] {false, true}) {
            for (int no : new int[] {-1, 3, LEAST, MOST}) {
                refused("seen in band " + no, Due.INDEX, state, s -> s.seen(2, 1, no, trap));
            }
            for (int no : NO_COLUMNS) {
                refused("seen at column " + no, Due.INDEX, state, s -> s.seen(no, 0, 0, trap));
            }
            for (int no : NO_ROWS) {
                refused("seen at row " + no, Due.INDEX, state, s -> s.seen(0, no, 2, trap));
            }
        }
    }

    /** Promise 8: "ArrayIndexOutOfBoundsException". */
    private static void lenderOfNothing(State state) {
        for (int no : NO_COLUMNS) {
            refused("lender at column " + no, Due.INDEX, state, s -> s.lender(no, 1));
        }
        for (int no : NO_ROWS) {
            refused("lender at row " + no, Due.INDEX, state, s -> s.lender(2, no));
        }
    }

    /** Promise 9: "0 .. 3 .. IllegalArgumentException". */
    private static void widthOutside(State state) {
        for (int no : new int[] {-1, 4, LEAST, MOST}) {
            refused("width " + no, Due.ARGUMENT, state, s -> s.width(no));
        }
    }

    /** Promise 10: "IllegalArgumentException when one is no byte", of a full curve too, where both fit. */
    private static void gainOfNoBytes(State state) {
        for (int no : NO_BYTES) {
            refused("gain of v " + no, Due.ARGUMENT, state, s -> s.gain(no, 0));
            refused("gain of w " + no, Due.ARGUMENT, state, s -> s.gain(0, no));
            refused("gain of w " + no + " for 255", Due.ARGUMENT, state, s -> s.gain(255, no));
            refused("gain of w " + no + " between points", Due.ARGUMENT, state, s -> s.gain(19, no));
        }
    }

    /** Promise 10: "UnsupportedOperationException when it would have more than 12". */
    private static void thirteenthPoint() {
        for (int v : new int[] {1, 19, 21, 101, 199, 201, 254}) {
            refused("gain for " + v, Due.UNSUPPORTED, State.FULL, s -> s.gain(v, 0));
            refused("gain for " + v, Due.UNSUPPORTED, State.FULL, s -> s.gain(v, 255));
        }
    }

    /** Promise 11: "IllegalArgumentException when a is not 0 .. 12, or b is not -12 .. 12", of six cells too. */
    private static void cellOutside(State state) {
        for (int no : new int[] {-1, 13, LEAST, MOST}) {
            refused("cell, a " + no, Due.ARGUMENT, state, s -> s.cell(no, 0));
            refused("cell, a " + no, Due.ARGUMENT, state, s -> s.cell(no, 12));
        }
        for (int no : new int[] {-13, 13, LEAST, MOST}) {
            refused("cell, b " + no, Due.ARGUMENT, state, s -> s.cell(0, no));
            refused("cell, b " + no, Due.ARGUMENT, state, s -> s.cell(12, no));
        }
    }

    /** Promise 11: "ArithmeticException (0, 0)", of six cells too, where both fit. */
    private static void cellOfNoSize(State state) {
        refused("cell of no size", Due.ARITHMETIC, state, s -> s.cell(0, 0));
    }

    /** Promise 11: "UnsupportedOperationException when there are 6". */
    private static void seventhCell() {
        for (int[] steps : new int[][] {{0, 1}, {1, 0}, {0, -1}, {12, 12}, {12, -12}}) {
            refused("cell", Due.UNSUPPORTED, State.FULL, s -> s.cell(steps[0], steps[1]));
        }
    }

    /** Promise 12: "ArrayIndexOutOfBoundsException": no such cell, no such point of it. */
    private static void rankOfNothing(State state) {
        for (int no : state.noCells()) {
            refused("N of cell " + no, Due.INDEX, state, s -> s.rank(no, -1));
            refused("rank in cell " + no, Due.INDEX, state, s -> s.rank(no, 0));
        }
        for (int i = 0; i < state.cells; i++) {
            int cell = i;
            int points = state.make().rank(cell, -1);
            for (int no : new int[] {-2, points, LEAST, MOST}) {
                refused("rank of point " + no + " in cell " + cell, Due.INDEX, state, s -> s.rank(cell, no));
            }
        }
    }

    /** Promise 13: "ArrayIndexOutOfBoundsException (the cell)", of points too far too, where both fit. */
    private static void sameOfNoCell(State state) {
        for (int no : state.noCells()) {
            refused("same in cell " + no, Due.INDEX, state, s -> s.same(no, 0, 0));
            refused("same in cell " + no + ", x too far", Due.INDEX, state, s -> s.same(no, 1000001, 0));
            refused("same in cell " + no + ", y too far", Due.INDEX, state, s -> s.same(no, 0, -1000001));
        }
    }

    /** Promise 13: "IllegalArgumentException when x or y is not -1000000 .. 1000000". */
    private static void sameTooFar(State state) {
        for (int i = 0; i < state.cells; i++) {
            int cell = i;
            for (int no : new int[] {-1000001, 1000001, LEAST, MOST}) {
                refused("same, x " + no, Due.ARGUMENT, state, s -> s.same(cell, no, 0));
                refused("same, y " + no, Due.ARGUMENT, state, s -> s.same(cell, 0, no));
                refused("same, both " + no, Due.ARGUMENT, state, s -> s.same(cell, no, no));
            }
        }
    }

    /** Promise 14: "ArrayIndexOutOfBoundsException": no such cell, ink or point. */
    private static void printsOfNothing(State state) {
        for (int no : state.noCells()) {
            refused("prints by cell " + no, Due.INDEX, state, s -> s.prints(no, 0, 0, 0));
        }
        for (int no : state.noInks()) {
            refused("prints of ink " + no, Due.INDEX, state, s -> s.prints(0, no, 0, 0));
        }
        for (int no : NO_COLUMNS) {
            refused("prints at column " + no, Due.INDEX, state, s -> s.prints(0, 0, no, 0));
        }
        for (int no : NO_ROWS) {
            refused("prints at row " + no, Due.INDEX, state, s -> s.prints(0, 0, 0, no));
        }
    }

    /** Promise 15: "ArrayIndexOutOfBoundsException". */
    private static void coveredOfNoInk(State state) {
        for (int no : state.noInks()) {
            refused("covered of ink " + no, Due.INDEX, state, s -> s.covered(no));
        }
    }

    /** Promise 16: "ArrayIndexOutOfBoundsException": no such ink, no such byte. */
    private static void packedOfNothing(State state) {
        for (int no : state.noInks()) {
            refused("how many packed of ink " + no, Due.INDEX, state, s -> s.packed(no, -1));
            refused("packed of ink " + no, Due.INDEX, state, s -> s.packed(no, 0));
        }
        int bytes = state.make().packed(Pages.BLACK, -1);
        for (int no : new int[] {-2, -3, bytes, bytes + 1, LEAST, MOST}) {
            refused("packed byte " + no, Due.INDEX, state, s -> s.packed(Pages.BLACK, no));
        }
    }

    /** Refused again and again, what is full or empty stays so. */
    private static void manyRefused() {
        SeparateScreens tried = State.FULL.make();
        for (int i = 0; i < 8; i++) {
            int v = 20 * i + 1;
            DUE.fails("a ninth ink", Due.UNSUPPORTED, () -> tried.ink(v, v, v, v));
            DUE.fails("a seventh cell", Due.UNSUPPORTED, () -> tried.cell(1, 1));
            DUE.fails("a thirteenth point", Due.UNSUPPORTED, () -> tried.gain(v, v));
        }
        DUE.alike("many refused calls changed it", Probe.of(tried), Probe.of(State.FULL.make()));
    }
}
