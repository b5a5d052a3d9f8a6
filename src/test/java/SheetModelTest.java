import java.util.ArrayList;
import java.util.Arrays;
import java.util.List;
import java.util.Random;

/**
 * Random runs of calls on sheets and on what was seen (promises 27 to 38), with
 * arguments that are refused among them, each answer compared with that of a
 * model that is written straight from the document.
 */
public final class SheetModelTest {
    private static final int BAD = -2, NOT = -3, FULL = -4, LEAST_INT = Integer.MIN_VALUE;
    private static final int NULL = 1, INDEX = 2, CAST = 3, STORE = 4, SIZE = 5;
    private static final int[] ODD = {LEAST_INT, LEAST_INT + 1, -129, -2, -1, 3, 4, 5, 9, 10, 59, 60, 61, 128, 255, 256, 32768,
        65536, Integer.MAX_VALUE - 1, Integer.MAX_VALUE};
    private static final int[] TICKLISH = {9, 7}, FUNNY = {9, 0, 7};
    private static int wrong = 0;
    private static int calls = 0;

    public static void main(String[] args) {
        for (int run = 0; run < 2000; run++) {
            new Run(new Random(31000 + run), run).go();
        }
        System.out.println(calls + " calls compared with the model of rows, " + wrong + " wrong");
        if (wrong != 0 || calls < 100000) {
            System.exit(1);
        }
    }

    /** What the document tells of SHEETS, FINDINGS and SEEN; null: the SHEET is LOST. */
    private static final class Model {
        final int[][] items = new int[4][];
        final int[] forms = new int[4];
        final List<int[]> seen = new ArrayList<>();
        int finding = 0;

        static boolean in(int v, int low, int high) {
            return low <= v && v <= high;
        }

        int find(int number) {
            finding = number;
            return -10 - number;
        }

        static int quarters(int ticklish, int funny, int mood, int held) {
            int all = ticklish == 0 || funny == 0 ? 0 : Math.min(4, (ticklish * funny + 5 * mood) / 20);
            return Math.max(0, all - 2 * held);
        }

        int lowest(int s, int v) {
            int bits = new int[] {8, 16, 32}[forms[s]];
            long cut = Math.floorMod((long) v, 1L << bits);
            return (int) (cut >= 1L << bits - 1 ? cut - (1L << bits) : cut);
        }

        int sheet(int s, int form, int n) {
            if (!in(s, 0, 3) || !in(form, 0, 2) || n > 60) {
                return BAD;
            }
            if (n < 0) {
                return find(SIZE);
            }
            items[s] = new int[n];
            forms[s] = form;
            return n;
        }

        int lose(int s) {
            if (!in(s, 0, 3)) {
                return BAD;
            }
            if (items[s] == null) {
                return find(NULL);
            }
            int n = items[s].length;
            items[s] = null;
            return n;
        }

        private int looked(int s, int form, int i) {
            if (items[s] == null) {
                return NULL;
            }
            if (forms[s] != form) {
                return CAST;
            }
            return in(i, 0, items[s].length - 1) ? 0 : INDEX;
        }

        int lay(int s, int form, int i, int v) {
            if (!in(s, 0, 3) || !in(form, 0, 2)) {
                return BAD;
            }
            if (looked(s, form, i) != 0) {
                return find(looked(s, form, i));
            }
            items[s][i] = lowest(s, v);
            return 1;
        }

        int get(int s, int form, int i) {
            if (!in(s, 0, 3) || !in(form, 0, 2)) {
                return LEAST_INT;
            }
            if (looked(s, form, i) != 0) {
                find(looked(s, form, i));
                return LEAST_INT;
            }
            return items[s][i];
        }

        int copy(int s, int i, int t, int j, int n) {
            if (!in(s, 0, 3) || !in(t, 0, 3)) {
                return BAD;
            }
            if (items[s] == null || items[t] == null) {
                return find(NULL);
            }
            if (forms[s] != forms[t]) {
                return find(STORE);
            }
            if (i < 0 || j < 0 || n < 0 || (long) i + n > items[s].length || (long) j + n > items[t].length) {
                return find(INDEX);
            }
            int[] from = items[s].clone();
            for (int k = 0; k < n; k++) {
                items[t][j + k] = from[i + k];
            }
            return 1;
        }

        int write(int p, int s, int[] quarters) {
            if (quarters == null || !in(s, 0, 3)) {
                return BAD;
            }
            if (items[s] == null) {
                return find(NULL);
            }
            int n = Math.min(quarters.length, items[s].length);
            for (int i = 0; i < n; i++) {
                items[s][i] = quarters[i];
            }
            return n;
        }

        int saw(int p, int funny, int mood, int held, int laughed) {
            if (!in(p, 0, 3) || !in(funny, 0, 9) || !in(mood, 0, 4) || !in(held, 0, 1) || !in(laughed, 0, 1)) {
                return BAD;
            }
            if (seen.size() == 60) {
                return FULL;
            }
            seen.add(new int[] {p, funny, mood, held, laughed});
            return seen.size();
        }

        int read(int s, int p) {
            if (!in(s, 0, 3) || !in(p, 0, 3)) {
                return BAD;
            }
            if (items[s] == null) {
                return find(NULL);
            }
            int came = 0;
            while (3 * came + 2 < items[s].length) {
                if (saw(p, items[s][3 * came], items[s][3 * came + 1], 0, items[s][3 * came + 2]) < 0) {
                    break;
                }
                came++;
            }
            return came;
        }

        int off(int p, int ticklish) {
            if (!in(p, 0, 3) || !in(ticklish, 0, 9)) {
                return BAD;
            }
            return seen.stream().filter(k -> k[0] == p).mapToInt(k -> 4 * k[4] - quarters(ticklish, k[1], k[2], k[3])).map(d -> d * d).sum();
        }

        int guess(int p) {
            if (!in(p, 0, 3)) {
                return BAD;
            }
            if (seen.stream().noneMatch(k -> k[0] == p)) {
                return NOT;
            }
            int best = 9;
            for (int ticklish = 8; ticklish >= 0; ticklish--) {
                best = off(p, ticklish) <= off(p, best) ? ticklish : best;
            }
            return best;
        }

        int laughs(int p, int funny, int what) {
            if (!in(p, 0, 3) || !in(funny, 0, 9) || !in(what, 0, 1)) {
                return BAD;
            }
            return (int) seen.stream().filter(k -> k[0] == p && k[1] == funny && k[4] >= what).count();
        }
    }

    /** One object and its model, through a random run, with two people and three tales in the room. */
    private static final class Run {
        private final Random random;
        private final int number;
        private final LaughsLast x = new LaughsLast();
        private final Model m = new Model();

        Run(Random random, int number) {
            this.random = random;
            this.number = number;
        }

        void go() {
            String room = "p" + TICKLISH[0] + "123;p" + TICKLISH[1] + "456;t" + FUNNY[0] + ";t" + FUNNY[1] + ";t" + FUNNY[2];
            for (char c : room.toCharArray()) {
                x.type(c);
            }
            // At most 63 calls come by one ask, and 48 behind them, so that it stays under 512.
            for (int begun = calls; calls - begun < 360;) {
                ask(random.nextInt(14));
                same("count(8)", x.count(8), m.finding);
            }
            for (int s = 0; s < 4; s++) {
                for (int i = 0; m.items[s] != null && i < Math.min(12, m.items[s].length); i++) {
                    same("item " + i + " of " + s, x.get(s, m.forms[s], i), m.items[s][i]);
                }
            }
        }

        private void same(String call, int got, int want) {
            calls++;
            if (got != want) {
                wrong++;
                if (wrong < 50) {
                    System.out.println("run " + number + ": " + call + " answered " + got + ", the model says " + want);
                }
            }
        }

        /** A number of 0 to high, or now and then an odd one. */
        private int some(int high) {
            return random.nextInt(20) == 0 ? ODD[random.nextInt(ODD.length)] : random.nextInt(high + 1);
        }

        private int any() {
            return random.nextBoolean() ? random.nextInt(10) : random.nextBoolean() ? random.nextInt() : ODD[random.nextInt(ODD.length)];
        }

        /** Mostly the form that it has. */
        private int formOf(int s) {
            return Model.in(s, 0, 3) && random.nextInt(4) > 0 ? m.forms[s] : some(2);
        }

        private void ask(int which) {
            int s = some(3);
            int p = some(3);
            int form = formOf(s);
            int i = some(9);
            switch (which) {
                case 0: case 1: renewed(s); break;
                case 2: same("lose(" + s + ")", x.lose(s), m.lose(s)); break;
                case 3: case 4: laid(s, form, i, any()); break;
                case 5: same("get" + Arrays.asList(s, form, i), x.get(s, form, i), m.get(s, form, i)); break;
                case 6: case 7: copied(s, i, some(3), some(9), some(5)); break;
                case 8: same("write" + Arrays.asList(p, s), x.write(p, s), m.write(p, s, quartersOf(p))); break;
                case 9: saw(p, some(9), some(4), some(1), some(1)); break;
                case 10: same("read" + Arrays.asList(s, p), x.read(s, p), m.read(s, p)); break;
                case 11: same("off" + Arrays.asList(p, i), x.off(p, i), m.off(p, i)); break;
                case 12: same("guess(" + p + ")", x.guess(p), m.guess(p)); break;
                default: laughed(p, i, some(1)); break;
            }
        }

        private void renewed(int s) {
            int form = some(2);
            int n = random.nextInt(8) == 0 ? random.nextInt(61) : some(9);
            same("sheet" + Arrays.asList(s, form, n), x.sheet(s, form, n), m.sheet(s, form, n));
            for (int i = 0; i + 2 < n && n <= 60 && random.nextInt(3) > 0; i += 3) {
                laid(s, form, i, random.nextInt(10));
                laid(s, form, i + 1, random.nextInt(5));
                laid(s, form, i + 2, random.nextInt(2));
            }
        }

        private void laid(int s, int form, int i, int v) {
            same("lay" + Arrays.asList(s, form, i, v), x.lay(s, form, i, v), m.lay(s, form, i, v));
        }

        private void copied(int s, int i, int t, int j, int n) {
            same("copy" + Arrays.asList(s, i, t, j, n), x.copy(s, i, t, j, n), m.copy(s, i, t, j, n));
        }

        private void saw(int p, int funny, int mood, int held, int laughed) {
            same("saw" + Arrays.asList(p, funny, mood, held, laughed), x.saw(p, funny, mood, held, laughed), m.saw(p, funny, mood, held, laughed));
            same("count(4)", x.count(4), m.seen.size());
            same("count(5)", x.count(5), m.seen.stream().mapToInt(k -> k[4]).sum());
        }

        private void laughed(int p, int funny, int what) {
            same("laughs" + Arrays.asList(p, funny, what), x.laughs(p, funny, what), m.laughs(p, funny, what));
        }

        /** null: there is no such one in the room. */
        private static int[] quartersOf(int p) {
            if (!Model.in(p, 0, 1)) {
                return null;
            }
            int[] quarters = new int[3];
            for (int i = 0; i < 3; i++) {
                quarters[i] = Model.quarters(TICKLISH[p], FUNNY[i], i == 0 ? 0 : FUNNY[i - 1] / 2, 0);
            }
            return quarters;
        }
    }
}
