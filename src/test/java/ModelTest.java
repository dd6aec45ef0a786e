import java.util.ArrayList;
import java.util.List;
import java.util.Map;
import java.util.Random;
import java.util.TreeMap;

/** Long runs of mixed calls, right and wrong, against a second and slower reading of the document. */
public final class ModelTest {
    private static final int RUNS = 400;
    private static final int CALLS = 512;
    private static final Due DUE = new Due();

    public static void main(String[] args) {
        for (int run = 0; run < RUNS; run++) {
            new Run(run).go();
        }
        DUE.end();
    }

    /** What the document asks. Exceptions are told as numbers far below any answer. */
    private static final class Model {
        static final long ARGUMENT = -1000001;
        static final long INDEX = -1000002;
        static final long UNSUPPORTED = -1000003;
        static final long ARITHMETIC = -1000004;

        final int w;
        final int h;
        final List<int[]> mixes = new ArrayList<>();
        final int[] colour = {-1, -1, -1, -1, -1, -1, -1, -1};
        final int[][][] page;
        final TreeMap<Integer, Integer> curve = new TreeMap<>(Map.of(0, 0, 255, 255));
        final List<int[]> cells = new ArrayList<>();
        int limit = 2040;
        int reach = 1;

        Model(int width, int height) {
            w = width < 1 ? 1 : width > 16 ? 16 : width;
            h = height < 1 ? 1 : height > 12 ? 12 : height;
            page = new int[w][h][8];
            for (int ink = 0; ink < 4; ink++) {
                int[] mix = new int[4];
                mix[ink] = 255;
                mixes.add(mix);
            }
        }

        boolean noByte(int v) {
            return (v & 255) != v;
        }

        boolean noInk(int ink) {
            return ink < 0 || ink >= mixes.size();
        }

        boolean noPoint(int x, int y) {
            return x < 0 || y < 0 || x >= w || y >= h;
        }

        long ink(int[] mix) {
            for (int v : mix) {
                if (noByte(v)) {
                    return ARGUMENT;
                }
            }
            if (mixes.size() == 8) {
                return UNSUPPORTED;
            }
            mixes.add(mix);
            return mixes.size() - 1;
        }

        long colour(int ink, int v) {
            if (v != -1 && noByte(v)) {
                return ARGUMENT;
            }
            if (noInk(ink)) {
                return INDEX;
            }
            colour[ink] = v;
            return 0;
        }

        long paint(int x, int y, int x2, int y2, boolean over) {
            int count = 0;
            for (int i = 0; i < w; i++) {
                for (int j = 0; j < h; j++) {
                    if (x <= i && i <= x2 && y <= j && j <= y2) {
                        count++;
                        paintOne(page[i][j], over);
                    }
                }
            }
            return count;
        }

        int sum(int[] p) {
            int sum = 0;
            for (int v : p) {
                sum += v;
            }
            return sum;
        }

        void paintOne(int[] p, boolean over) {
            for (int ink = 0; ink < 8; ink++) {
                p[ink] = colour[ink] >= 0 ? colour[ink] : over ? p[ink] : 0;
            }
            if (sum(p) > limit) {
                int half = (int) Math.ceil((sum(p) - limit) / 2.0);
                int least = Math.min(p[0], Math.min(p[1], p[2]));
                int t = Math.min(half, Math.min(least, 255 - p[3]));
                p[0] -= t;
                p[1] -= t;
                p[2] -= t;
                p[3] += t;
                int sum = sum(p);
                if (sum > limit) {
                    for (int ink = 0; ink < 8; ink++) {
                        if (ink != 3 && p[ink] != 0) {
                            p[ink] = p[ink] * (limit > p[3] ? limit - p[3] : 0) / (sum - p[3]);
                        }
                    }
                    p[3] = p[3] > limit ? limit : p[3];
                }
            }
        }

        long limit(int sum) {
            if (sum < 0 || sum > 2040) {
                return ARGUMENT;
            }
            int was = limit;
            limit = sum;
            return was;
        }

        long width(int width) {
            if (width < 0 || width > 3) {
                return ARGUMENT;
            }
            int was = reach;
            reach = width;
            return was;
        }

        int band(int[] p, int band) {
            long seen = 255;
            for (int ink = 0; ink < mixes.size(); ink++) {
                int[] mix = mixes.get(ink);
                long m = mix[band] + mix[3] > 255 ? 255 : mix[band] + mix[3];
                seen = (seen * (65025 - p[ink] * m) + 32512) / 65025;
            }
            return (int) seen;
        }

        int light(int[] p) {
            return (30 * band(p, 0) + 59 * band(p, 1) + 11 * band(p, 2)) / 100;
        }

        boolean unlike(int[] p, int[] q) {
            int both = 0;
            int ofP = 0;
            int ofQ = 0;
            for (int ink = 0; ink < 8; ink++) {
                both += p[ink] > 24 && q[ink] > 24 ? 1 : 0;
                ofP += p[ink] > 24 ? 1 : 0;
                ofQ += q[ink] > 24 ? 1 : 0;
            }
            return both == 0 && ofP > 0 && ofQ > 0;
        }

        long lender(int x, int y) {
            if (noPoint(x, y)) {
                return INDEX;
            }
            long best = -1;
            long bestKey = Long.MAX_VALUE;
            for (int i = 0; i < w; i++) {
                for (int j = 0; j < h; j++) {
                    boolean near = Math.abs(i - x) <= reach && Math.abs(j - y) <= reach;
                    long far = (i - x) * (i - x) + (j - y) * (j - y);
                    long key = far * 10000 + j * 100 + i;
                    if (near && key < bestKey && unlike(page[x][y], page[i][j]) && light(page[i][j]) > light(page[x][y])) {
                        best = i + w * j;
                        bestKey = key;
                    }
                }
            }
            return best;
        }

        int[] trapped(int x, int y) {
            int[] p = page[x][y].clone();
            int q = (int) lender(x, y);
            for (int ink = 0; q >= 0 && ink < 8; ink++) {
                p[ink] = Math.max(p[ink], page[q % w][q / w][ink]);
            }
            return p;
        }

        int bent(int b) {
            int v = curve.floorKey(b);
            int v2 = curve.ceilingKey(b);
            int rise = curve.get(v2) - curve.get(v);
            return v == v2 ? curve.get(v) : curve.get(v) + rise * (b - v) / (v2 - v);
        }

        long plate(int ink, int x, int y, int way) {
            if (way < 0 || way > 3) {
                return ARGUMENT;
            }
            if (noInk(ink) || noPoint(x, y)) {
                return INDEX;
            }
            int value = (way & 1) == 0 ? page[x][y][ink] : trapped(x, y)[ink];
            return way < 2 ? value : bent(value);
        }

        long seen(int x, int y, int band, boolean trap) {
            if (noPoint(x, y) || band < 0 || band > 2) {
                return INDEX;
            }
            return band(trap ? trapped(x, y) : page[x][y], band);
        }

        long gain(int v, int value) {
            if (noByte(v) || noByte(value)) {
                return ARGUMENT;
            }
            if (curve.size() == 12 && !curve.containsKey(v)) {
                return UNSUPPORTED;
            }
            curve.put(v, value);
            return 0;
        }

        long cell(int a, int b) {
            if (a < 0 || a > 12 || b < -12 || b > 12) {
                return ARGUMENT;
            }
            if (a == 0 && b == 0) {
                return ARITHMETIC;
            }
            if (cells.size() == 6) {
                return UNSUPPORTED;
            }
            cells.add(new int[] {a, b});
            return cells.size() - 1;
        }

        int points(int cell) {
            int[] c = cells.get(cell);
            return c[0] * c[0] + c[1] * c[1];
        }

        int breadth(int cell) {
            int[] c = cells.get(cell);
            int g = 12;
            while (c[0] % g != 0 || c[1] % g != 0) {
                g--;
            }
            return points(cell) / g;
        }

        boolean leads(int cell, long dx, long dy) {
            int[] c = cells.get(cell);
            return (c[0] * dx + c[1] * dy) % points(cell) == 0 && (c[0] * dy - c[1] * dx) % points(cell) == 0;
        }

        long same(int cell, int x, int y) {
            if (cell < 0 || cell >= cells.size()) {
                return INDEX;
            }
            if (Math.abs((long) x) > 1000000 || Math.abs((long) y) > 1000000) {
                return ARGUMENT;
            }
            int breadth = breadth(cell);
            for (int i = 0; i < points(cell); i++) {
                if (leads(cell, x - i % breadth, y - i / breadth)) {
                    return i;
                }
            }
            return Long.MIN_VALUE;
        }

        int size(int cell, int i) {
            int breadth = breadth(cell);
            for (int size = 0; size < 1000; size++) {
                for (int x = 0; x * x <= size; x++) {
                    int y = (int) Math.round(Math.sqrt(size - x * x));
                    for (int sign = 0; x * x + y * y == size && sign < 4; sign++) {
                        int u = (sign & 1) == 0 ? x : -x;
                        int v = (sign & 2) == 0 ? y : -y;
                        if (leads(cell, u - i % breadth, v - i / breadth)) {
                            return size;
                        }
                    }
                }
            }
            return -1;
        }

        long rank(int cell, int i) {
            if (cell < 0 || cell >= cells.size() || i < -1 || i >= points(cell)) {
                return INDEX;
            }
            if (i == -1) {
                return points(cell);
            }
            int own = size(cell, i);
            int rank = 0;
            for (int j = 0; j < points(cell); j++) {
                int other = size(cell, j);
                rank += other < own || other == own && j < i ? 1 : 0;
            }
            return rank;
        }

        long prints(int cell, int ink, int x, int y) {
            if (cell < 0 || cell >= cells.size() || noInk(ink) || noPoint(x, y)) {
                return INDEX;
            }
            int bound = (bent(page[x][y][ink]) * points(cell) + 127) / 255;
            return rank(cell, (int) same(cell, x, y)) < bound ? 1 : 0;
        }

        long covered(int ink) {
            if (noInk(ink)) {
                return INDEX;
            }
            long sum = 0;
            for (int[][] column : page) {
                for (int[] p : column) {
                    sum += p[ink];
                }
            }
            return sum;
        }

        long packed(int ink, int i) {
            if (noInk(ink)) {
                return INDEX;
            }
            List<Integer> bytes = new ArrayList<>();
            for (int y = 0; y < h; y++) {
                int x = 0;
                while (x < w) {
                    int end = x;
                    while (end < w && page[end][y][ink] == page[x][y][ink]) {
                        end++;
                    }
                    bytes.add(end - x);
                    bytes.add(page[x][y][ink]);
                    x = end;
                }
            }
            return i == -1 ? bytes.size() : i < 0 || i >= bytes.size() ? INDEX : bytes.get(i);
        }
    }

    /** One run of calls on one object and one model. */
    private static final class Run {
        final int number;
        final Random random;
        final Model model;
        final SeparateScreens screens;

        Run(int number) {
            this.number = number;
            random = new Random(number * 7919L + 1);
            int width = within(-1, 18);
            int height = within(-1, 14);
            model = new Model(width, height);
            screens = new SeparateScreens(width, height);
        }

        /** Mostly from low to high, now and then at an edge or far away. */
        int within(int low, int high) {
            int kind = random.nextInt(200);
            if (kind == 0) {
                return random.nextInt();
            }
            if (kind < 4) {
                return kind == 1 ? low - 1 : kind == 2 ? high + 1 : -1;
            }
            return low + random.nextInt(high - low + 1);
        }

        int someByte() {
            return random.nextInt(4) == 0 ? new int[] {0, 24, 25, 255}[random.nextInt(4)] : within(0, 255);
        }

        int someInk() {
            return within(0, model.mixes.size() - 1);
        }

        int someX() {
            return within(0, model.w - 1);
        }

        int someY() {
            return within(0, model.h - 1);
        }

        int someCell() {
            return within(0, Math.max(0, model.cells.size() - 1));
        }

        void go() {
            for (int call = 0; call < CALLS; call++) {
                int kind = random.nextInt(20);
                if (kind < 8) {
                    change(kind);
                } else {
                    ask(kind);
                }
            }
        }

        void due(long want, String what, Due.Call call) {
            long got;
            try {
                got = call.run();
            } catch (RuntimeException e) {
                got = numberOf(e);
            }
            DUE.is("run " + number + ": " + what, got, want);
        }

        long numberOf(RuntimeException e) {
            Class<?> kind = e.getClass();
            return Due.isOfTheMachine(e.getMessage()) ? Long.MAX_VALUE
                : kind == IllegalArgumentException.class ? Model.ARGUMENT
                : kind == ArrayIndexOutOfBoundsException.class ? Model.INDEX
                : kind == UnsupportedOperationException.class ? Model.UNSUPPORTED
                : kind == ArithmeticException.class ? Model.ARITHMETIC : Long.MAX_VALUE;
        }

        void change(int kind) {
            int a = someByte();
            int b = someByte();
            switch (kind) {
                case 0 -> {
                    int rarely = random.nextInt(8);
                    int sum = rarely == 0 ? 2040 : within(0, 1200);
                    due(model.limit(sum), "limit " + sum, () -> screens.limit(sum));
                }
                case 1 -> {
                    int c = someByte();
                    int d = random.nextBoolean() ? 0 : someByte();
                    if (random.nextInt(4) == 0) {
                        due(model.ink(new int[] {a, b, c, d}), "ink", () -> screens.ink(a, b, c, d));
                    }
                }
                case 2, 3 -> {
                    int ink = someInk();
                    int v = random.nextInt(3) > 0 ? -1 : a;
                    due(model.colour(ink, v), "colour " + ink + " " + v, () -> { screens.colour(ink, v); return 0; });
                }
                case 4, 5 -> paint();
                case 6 -> {
                    if (random.nextInt(3) == 0) {
                        due(model.gain(a, b), "gain " + a + " " + b, () -> { screens.gain(a, b); return 0; });
                    } else {
                        int w = within(0, 3);
                        due(model.width(w), "width " + w, () -> screens.width(w));
                    }
                }
                default -> {
                    int steps = within(0, 12);
                    int down = within(-12, 12);
                    if (random.nextInt(3) == 0) {
                        due(model.cell(steps, down), "cell " + steps + " " + down, () -> screens.cell(steps, down));
                    }
                }
            }
        }

        void paint() {
            int x = someX();
            int y = someY();
            int x2 = x + random.nextInt(4) - (random.nextInt(9) == 0 ? 2 : 0);
            int y2 = y + random.nextInt(4);
            boolean over = random.nextBoolean();
            due(model.paint(x, y, x2, y2, over), "paint " + x + " " + y + " " + x2 + " " + y2 + " " + over,
                () -> screens.paint(x, y, x2, y2, over));
        }

        void ask(int kind) {
            int ink = someInk();
            int x = someX();
            int y = someY();
            int cell = someCell();
            String at = " ink " + ink + " at " + x + " " + y + " cell " + cell;
            switch (kind) {
                case 8, 9, 10, 11 -> {
                    int way = within(0, 3);
                    due(model.plate(ink, x, y, way), "plate way " + way + at, () -> screens.plate(ink, x, y, way));
                }
                case 12, 13 -> {
                    int band = within(0, 2);
                    boolean trap = random.nextBoolean();
                    due(model.seen(x, y, band, trap), "seen " + band + trap + at, () -> screens.seen(x, y, band, trap));
                }
                case 14 -> due(model.lender(x, y), "lender" + at, () -> screens.lender(x, y));
                case 15 -> {
                    int i = random.nextInt(9) > 0 && cell >= 0 && cell < model.cells.size()
                        ? random.nextInt(model.points(cell)) : within(-2, 290);
                    due(model.rank(cell, i), "rank " + i + at, () -> screens.rank(cell, i));
                }
                case 16 -> {
                    int far = within(-1000000, 1000000);
                    int down = within(-1000000, 1000000);
                    due(model.same(cell, far, down), "same " + far + " " + down + at, () -> screens.same(cell, far, down));
                }
                case 17 -> due(model.prints(cell, ink, x, y), "prints" + at, () -> screens.prints(cell, ink, x, y) ? 1 : 0);
                case 18 -> due(model.covered(ink), "covered" + at, () -> screens.covered(ink));
                default -> {
                    int i = within(-2, 40);
                    due(model.packed(ink, i), "packed " + i + at, () -> screens.packed(ink, i));
                }
            }
        }
    }
}
