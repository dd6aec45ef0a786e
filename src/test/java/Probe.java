import java.util.ArrayList;
import java.util.List;

/**
 * Asks an object of 3 by 2 points for all that its state can show, so that two objects can be compared.
 * It paints and adds to the object at the end, since the colour, the mixes and the curve show in no other way.
 * It takes fewer than 400 of the 512 calls that an object has.
 */
final class Probe {
    static final int COLUMNS = 3;
    static final int ROWS = 2;
    private static final int MOST_INKS = 8;
    private static final int MOST_CELLS = 6;

    private final SeparateScreens s;
    private final List<String> answers = new ArrayList<>();
    private int inks;

    private Probe(SeparateScreens s) {
        this.s = s;
    }

    static List<String> of(SeparateScreens s) {
        Probe probe = new Probe(s);
        probe.countInks();
        probe.askPoints();
        probe.askCells();
        probe.ask("width", () -> s.width(1));
        probe.ask("limit", () -> s.limit(2040));
        probe.showColour();
        probe.showMixes();
        probe.showCurve();
        probe.fillUp();
        return probe.answers;
    }

    private boolean ask(String what, Due.Call call) {
        try {
            answers.add(what + " answered " + call.run());
            return true;
        } catch (RuntimeException e) {
            answers.add(what + " threw " + e.getClass().getSimpleName());
            return false;
        }
    }

    private void countInks() {
        for (int i = 0; i <= MOST_INKS; i++) {
            int ink = i;
            if (ask("covered " + ink, () -> s.covered(ink))) {
                inks = ink + 1;
            }
        }
    }

    private void askPoints() {
        for (int point = 0; point < COLUMNS * ROWS; point++) {
            int x = point % COLUMNS;
            int y = point / COLUMNS;
            String at = " at " + x + " " + y;
            ask("lender" + at, () -> s.lender(x, y));
            for (int band = 0; band < 6; band++) {
                int of = band;
                ask("seen " + of + at, () -> s.seen(x, y, of % 3, of >= 3));
            }
            for (int i = 0; i < 2 * inks; i++) {
                int ink = i / 2;
                int way = i % 2;
                ask("plate " + ink + at + " way " + way, () -> s.plate(ink, x, y, way));
            }
        }
    }

    private void askCells() {
        for (int i = 0; i <= MOST_CELLS; i++) {
            int cell = i;
            if (ask("N of cell " + cell, () -> s.rank(cell, -1))) {
                ask("rank in cell " + cell, () -> s.rank(cell, s.same(cell, 2, 1)));
                ask("same in cell " + cell, () -> s.same(cell, -3, 5));
                ask("prints by cell " + cell, () -> s.prints(cell, 0, 1, 1) ? 1 : 0);
            }
        }
    }

    /** Painted over what is there, -1 of an ink differs from 0 of it. */
    private void showColour() {
        ask("paint over", () -> s.paint(0, 0, 0, 0, true));
        ask("paint", () -> s.paint(1, 0, 1, 0, false));
        for (int i = 0; i < inks; i++) {
            int ink = i;
            ask("the colour, over, of ink " + ink, () -> s.plate(ink, 0, 0, 0));
            ask("the colour of ink " + ink, () -> s.plate(ink, 1, 0, 0));
        }
    }

    private void showMixes() {
        for (int ink = 0; ink < inks; ink++) {
            s.colour(ink, -1);
        }
        for (int ink = 0; ink < inks; ink++) {
            Pages.dot(s, 0, 0, ink, 200);
            for (int i = 0; i < 3; i++) {
                int band = i;
                ask("ink " + ink + " seen in " + band, () -> s.seen(0, 0, band, false));
            }
        }
    }

    /** Bytes from 0 to 255, as many as the page has room for. */
    private void showCurve() {
        int last = COLUMNS * ROWS * inks - 1;
        for (int point = 0; point < COLUMNS * ROWS; point++) {
            int x = point % COLUMNS;
            int y = point / COLUMNS;
            for (int ink = 0; ink < inks; ink++) {
                s.colour(ink, (point * inks + ink) * 255 / last);
            }
            s.paint(x, y, x, y, false);
            for (int i = 0; i < inks; i++) {
                int ink = i;
                ask("the curve at " + (point * inks + ink) * 255 / last, () -> s.plate(ink, x, y, 2));
            }
        }
    }

    /** Inks that were not there when the probe began are not in the colour. */
    private void showColourOfNewInks() {
        ask("paint with new inks", () -> s.paint(0, 0, COLUMNS, ROWS, false));
        for (int i = inks; i < MOST_INKS; i++) {
            int ink = i;
            ask("covered by new ink " + ink, () -> s.covered(ink));
        }
    }

    /** How many more there may be of each kind tells how many there are. */
    private void fillUp() {
        boolean more = true;
        for (int i = 0; more && i < MOST_INKS; i++) {
            more = ask("one more ink", () -> s.ink(1, 2, 3, 4));
        }
        showColourOfNewInks();
        more = true;
        for (int i = 0; more && i < MOST_CELLS + 1; i++) {
            more = ask("one more cell", () -> s.cell(1, 2));
        }
        more = true;
        for (int i = 0; more && i < 13; i++) {
            int v = 2 * i + 1;
            more = ask("one more point of the curve", () -> {
                s.gain(v, 7);
                return 0;
            });
        }
    }
}
