/** Boundary cases of what was SEEN: Terms 3, promises 27 to 31. */
public final class SeenEdgesTest {
    public static void main(String[] args) throws Exception {
        Edges.runAll(SeenEdgesTest.class);
    }

    /**
     * Terms 3: "SEEN, 60 at most: one of the PEOPLE (0 to 3) at a TALE so FUNNY in a MOOD (0 to 4), HELD it or not, laughed or not."
     * Promise 27: "One more SEEN: how many."
     */
    static void sixtyAtMost() {
        for (String room : new String[] {"", "p1111;t1", "x"}) {
            LaughsLast x = Edges.in(room);
            for (int k = 1; k <= 60; k++) {
                Edges.due("seen " + k, x.saw(k % 4, k % 10, k % 5, k % 2, k / 2 % 2), k);
            }
            Edges.due("one more", x.saw(0, 0, 0, 0, 0), Edges.FULL);
            Edges.due("one more", x.saw(3, 9, 4, 1, 1), Edges.FULL);
            Edges.due("seen", x.count(4), 60);
            Edges.due("seen that laughed", x.count(5), 30);
            for (int p = 0; p < 4; p++) {
                int all = 0;
                for (int funny = 0; funny <= 9; funny++) {
                    all += x.laughs(p, funny, 0);
                }
                Edges.due("seen of " + p, all, 15);
            }
        }
    }

    /** Terms 3: "one of the PEOPLE (0 to 3) at a TALE so FUNNY in a MOOD (0 to 4), HELD it or not, laughed or not." */
    static void theLeastAndTheMostThatMayBeSeen() {
        for (int p = 0; p <= 3; p++) {
            Edges.due("the least of " + p, new LaughsLast().saw(p, 0, 0, 0, 0), 1);
            Edges.due("the most of " + p, new LaughsLast().saw(p, 9, 4, 1, 1), 1);
        }
        for (int funny = 0; funny <= 9; funny++) {
            for (int mood = 0; mood <= 4; mood++) {
                for (int held = 0; held <= 1; held++) {
                    for (int laughed = 0; laughed <= 1; laughed++) {
                        seenOnce(funny, mood, held, laughed);
                    }
                }
            }
        }
    }

    private static void seenOnce(int funny, int mood, int held, int laughed) {
        String call = "seen " + funny + " " + mood + " " + held + " " + laughed;
        LaughsLast x = new LaughsLast();
        Edges.due(call, x.saw(2, funny, mood, held, laughed), 1);
        Edges.due(call + ": laughs", x.laughs(2, funny, 0), 1);
        Edges.due(call + ": laughed", x.laughs(2, funny, 1), laughed);
        Edges.due(call + ": count(5)", x.count(5), laughed);
        // The quarters by TICKLISH 9 as of a tale that is told, its MOOD by one told ahead.
        LaughsLast told = Edges.in("p9000;t" + 2 * mood + ";t" + funny);
        told.holds(0, held == 1 ? 2 : 0);
        int less = 4 * laughed - told.quarters(0, 1);
        Edges.due(call + ": off", x.off(2, 9), less * less);
    }

    /** Promise 27: "BAD; FULL." */
    static void badSaw() {
        Edges.Made made = () -> Edges.busy("p9219;p5134;t9");
        Edges.Made full = SeenEdgesTest::full;
        for (Edges.Made there : new Edges.Made[] {made, full}) {
            String call = there == full ? "BAD ahead of FULL: saw " : "saw ";
            for (int p : Edges.outside(0, 3)) {
                Edges.refused(call + "p " + p, there, x -> x.saw(p, 1, 1, 1, 1), Edges.BAD);
            }
            for (int funny : Edges.outside(0, 9)) {
                Edges.refused(call + "funny " + funny, there, x -> x.saw(1, funny, 1, 1, 1), Edges.BAD);
            }
            for (int mood : Edges.outside(0, 4)) {
                Edges.refused(call + "mood " + mood, there, x -> x.saw(1, 1, mood, 1, 1), Edges.BAD);
            }
            for (int bit : Edges.outside(0, 1)) {
                Edges.refused(call + "held " + bit, there, x -> x.saw(1, 1, 1, bit, 1), Edges.BAD);
                Edges.refused(call + "laughed " + bit, there, x -> x.saw(1, 1, 1, 1, bit), Edges.BAD);
            }
        }
        Edges.refused("saw, where 60 were seen", full, x -> x.saw(1, 1, 1, 1, 1), Edges.FULL);
        Edges.refused("saw, where 60 were seen", full, x -> x.saw(0, 0, 0, 0, 0), Edges.FULL);
        Edges.due("saw of one not there", new LaughsLast().saw(3, 1, 1, 1, 1), 1);
    }

    private static LaughsLast full() {
        LaughsLast x = Edges.busy("p9219;p5134;t9");
        while (x.count(4) < 60) {
            x.saw(0, 9, 0, 0, 1);
        }
        return x;
    }

    /**
     * Promise 28: "SEEN of one more, by a SHEET: its items, three for each (FUNNY, MOOD, laughed; not HELD), as many as are whole,
     * as long as each may be and there is room: how many came."
     */
    static void asManyAsAreWhole() {
        for (int form = 0; form < 3; form++) {
            for (int n = 0; n <= 60; n++) {
                LaughsLast x = new LaughsLast();
                x.sheet(3, form, n);
                for (int i = 0; i < n; i++) {
                    x.lay(3, form, i, i % 3 == 0 ? 9 : i % 3 == 1 ? 4 : 1);
                }
                Edges.due("read of " + n + " items", x.read(3, 3), n / 3);
                Edges.due("seen by " + n + " items", x.count(4), n / 3);
                Edges.due("laughed by " + n + " items", x.count(5), n / 3);
                Edges.due("of that one by " + n + " items", x.laughs(3, 9, 1), n / 3);
                Edges.due("not held by " + n + " items", x.off(3, 9), 0);
                Edges.due("of no other by " + n + " items", x.laughs(0, 9, 0), 0);
                Edges.due("the sheet stays", n == 0 ? 9 : x.get(3, form, 0), 9);
                Edges.due("its items stay", x.lose(3), n);
            }
        }
    }

    /** Promise 28: "as long as each may be" */
    static void asLongAsEachMayBe() {
        int[][] ill = {{10, 4, 1}, {-1, 4, 1}, {9, 5, 1}, {9, -1, 1}, {9, 4, 2}, {9, 4, -1}};
        for (int form = 0; form < 3; form++) {
            for (int at = 0; at < 4; at++) {
                for (int[] three : ill) {
                    LaughsLast x = rowOfFour(form);
                    for (int k = 0; k < 3; k++) {
                        x.lay(0, form, 3 * at + k, three[k]);
                    }
                    Edges.due("read up to one that may not be, at " + at, x.read(0, 2), at);
                    Edges.due("seen up to that", x.count(4), at);
                    Edges.due("laughed up to that", x.count(5), at);
                }
            }
            LaughsLast well = rowOfFour(form);
            well.lay(0, form, 0, 0);
            well.lay(0, form, 1, 0);
            well.lay(0, form, 2, 0);
            Edges.due("the least that may be", well.read(0, 2), 4);
        }
        for (int v : new int[] {Integer.MIN_VALUE, Integer.MAX_VALUE, 256, 65536}) {
            LaughsLast x = rowOfFour(2);
            x.lay(0, 2, 3, v);
            Edges.due("read up to " + v, x.read(0, 2), 1);
        }
    }

    private static LaughsLast rowOfFour(int form) {
        LaughsLast x = new LaughsLast();
        x.sheet(0, form, 12);
        for (int i = 0; i < 12; i++) {
            x.lay(0, form, i, i % 3 == 0 ? 9 : i % 3 == 1 ? 4 : 1);
        }
        return x;
    }

    /** Promise 28: "and there is room: how many came." */
    static void asLongAsThereIsRoom() {
        for (int had = 54; had <= 60; had++) {
            LaughsLast x = rowOfFour(0);
            for (int k = 0; k < had; k++) {
                x.saw(0, 1, 0, 0, 0);
            }
            int came = Math.min(4, 60 - had);
            Edges.due("read where there were " + had, x.read(0, 1), came);
            Edges.due("seen of that one", x.laughs(1, 9, 0), came);
            Edges.due("seen", x.count(4), had + came);
            if (had >= 56) {
                Edges.due("read again", x.read(0, 1), 0);
                Edges.due("saw again", x.saw(0, 1, 0, 0, 0), Edges.FULL);
            }
        }
    }

    /** Promise 28: "BAD; NULL." */
    static void badRead() {
        Edges.Made made = () -> Edges.busy("p9219;p5134;t9");
        for (int k : Edges.outside(0, 3)) {
            Edges.refused("read(" + k + ", 0)", made, x -> x.read(k, 0), Edges.BAD);
            Edges.refused("read(0, " + k + ")", made, x -> x.read(0, k), Edges.BAD);
            Edges.refused("read(3, " + k + "): BAD ahead of NULL", made, x -> x.read(3, k), Edges.BAD);
        }
        Edges.found("read(3, 0)", made, x -> x.read(3, 0), -11, Edges.NULL);
        Edges.found("read(3, 0), where 60 were seen", SeenEdgesTest::full, x -> x.read(3, 0), -11, Edges.NULL);
        Edges.due("read for one not there", rowOfFour(0).read(0, 3), 4);
    }

    /**
     * Terms 3: "OFF by a TICKLISH (0 to 9): over all SEEN of one, 4 if one laughed (0 else), less the quarters, times itself, together."
     * Promise 29: "OFF."
     */
    static void offByTicklish() {
        LaughsLast x = new LaughsLast();
        int[] laughing = {16, 16, 16, 9, 9, 4, 4, 1, 1, 0};
        int[] silent = {0, 0, 0, 1, 1, 4, 4, 9, 9, 16};
        for (int p = 0; p < 4; p++) {
            for (int ticklish = 0; ticklish <= 9; ticklish++) {
                Edges.due("off, nothing seen", x.off(p, ticklish), 0);
            }
        }
        for (int n = 1; n <= 60; n++) {
            boolean laughed = n <= 30;
            x.saw(1, 9, 0, 0, laughed ? 1 : 0);
            int ticklish = n % 10;
            int due = laughed ? n * laughing[ticklish] : 30 * laughing[ticklish] + (n - 30) * silent[ticklish];
            Edges.due("off by " + ticklish + " over " + n, x.off(1, ticklish), due);
            Edges.due("off of another", x.off(2, ticklish), 0);
        }
        LaughsLast most = new LaughsLast();
        for (int n = 0; n < 60; n++) {
            most.saw(3, 0, 4, 0, 1);
        }
        Edges.due("off at tales of 0, the most of all", most.off(3, 9), 960);
        Edges.due("off by 0", most.off(3, 0), 960);
        LaughsLast mood = new LaughsLast();
        mood.saw(0, 9, 4, 0, 1);
        Edges.due("TICKLISH 0 does not laugh by MOOD", mood.off(0, 0), 16);
        Edges.due("5 quarters are 4", mood.off(0, 9), 0);
        mood.saw(0, 9, 4, 1, 1);
        Edges.due("HELD, 2 less than 4", mood.off(0, 9), 4);
        Edges.due("HELD, 1 less 2 is 0", mood.off(0, 1), 9 + 16);
    }

    /** Promise 29: "BAD." */
    static void badOff() {
        Edges.Made made = () -> Edges.busy("p9219;t9");
        for (int p : Edges.outside(0, 3)) {
            Edges.refused("off(" + p + ", 5)", made, x -> x.off(p, 5), Edges.BAD);
        }
        for (int ticklish : Edges.outside(0, 9)) {
            Edges.refused("off(0, " + ticklish + ")", made, x -> x.off(0, ticklish), Edges.BAD);
            Edges.refused("off(2, " + ticklish + "), nothing seen", made, x -> x.off(2, ticklish), Edges.BAD);
        }
    }

    /**
     * Terms 3: "GUESS: the TICKLISH with the least, of like ones the least; NOT, if nothing was SEEN of one."
     * Promise 30: "GUESS. BAD; NOT."
     */
    static void guesses() {
        guess("laughed at a tale of 9: the most TICKLISH", 9, new int[] {9, 0, 0, 1});
        guess("did not laugh: the least", 0, new int[] {9, 0, 0, 0});
        guess("a tale of 0: of like ones the least", 0, new int[] {0, 4, 0, 1});
        guess("HELD, never a quarter: of like ones the least", 0, new int[] {6, 1, 1, 1});
        guess("of like ones (7, 8, 9) the least", 7, new int[] {9, 4, 0, 1});
        guess("of like ones (5, 6) the least", 5, new int[] {9, 0, 0, 1}, new int[] {9, 0, 0, 0});
        Edges.Made made = () -> Edges.busy("p9219;t9");
        for (int p : Edges.outside(0, 3)) {
            Edges.refused("guess(" + p + ")", made, x -> x.guess(p), Edges.BAD);
            Edges.refused("guess(" + p + "): BAD ahead of NOT", LaughsLast::new, x -> x.guess(p), Edges.BAD);
        }
        Edges.refused("guess of one not seen", made, x -> x.guess(2), Edges.NOT);
        for (int p = 0; p < 4; p++) {
            int of = p;
            Edges.refused("guess, nothing seen", () -> Edges.in("p9219;t9"), x -> x.guess(of), Edges.NOT);
            LaughsLast x = new LaughsLast();
            x.saw(p, 0, 0, 0, 0);
            for (int other = 0; other < 4; other++) {
                Edges.due("guess of " + other + ", seen of " + p, x.guess(other), other == p ? 0 : Edges.NOT);
            }
        }
    }

    /** Of what was seen of 3: FUNNY, MOOD, HELD, laughed. */
    private static void guess(String call, int due, int[]... seen) {
        LaughsLast x = new LaughsLast();
        for (int[] one : seen) {
            x.saw(3, one[0], one[1], one[2], one[3]);
        }
        int least = 0;
        for (int ticklish = 1; ticklish <= 9; ticklish++) {
            least = x.off(3, ticklish) < x.off(3, least) ? ticklish : least;
        }
        Edges.due(call, x.guess(3), due);
        Edges.due(call + ", by off()", least, due);
    }

    /**
     * Terms 3: "LAUGHS: of all SEEN of one at TALES of a FUNNY how many, how many laughed."
     * Promise 31: "LAUGHS: how many (what = 0), how many laughed (1). BAD."
     */
    static void laughsAtAFunny() {
        LaughsLast x = new LaughsLast();
        for (int k = 0; k < 60; k++) {
            x.saw(k % 2 == 0 ? 0 : 3, k % 4 < 2 ? 0 : 9, k % 5, k % 2, k < 24 ? 1 : 0);
        }
        for (int p : new int[] {0, 3}) {
            for (int funny = 0; funny <= 9; funny++) {
                Edges.due("laughs(" + p + ", " + funny + ", 0)", x.laughs(p, funny, 0), funny % 9 == 0 ? 15 : 0);
                Edges.due("laughs(" + p + ", " + funny + ", 1)", x.laughs(p, funny, 1), funny % 9 == 0 ? 6 : 0);
                Edges.due("laughs of another", x.laughs(1, funny, 0), 0);
            }
        }
        LaughsLast all = new LaughsLast();
        for (int k = 0; k < 60; k++) {
            all.saw(2, 5, 4, 1, 1);
        }
        Edges.due("all of them", all.laughs(2, 5, 0), 60);
        Edges.due("all of them laughed", all.laughs(2, 5, 1), 60);
        Edges.Made made = () -> Edges.busy("p9219;t9");
        for (int p : Edges.outside(0, 3)) {
            Edges.refused("laughs(" + p + ", 5, 0)", made, y -> y.laughs(p, 5, 0), Edges.BAD);
        }
        for (int funny : Edges.outside(0, 9)) {
            Edges.refused("laughs(0, " + funny + ", 0)", made, y -> y.laughs(0, funny, 0), Edges.BAD);
        }
        for (int what : Edges.outside(0, 1)) {
            Edges.refused("laughs(0, 5, " + what + ")", made, y -> y.laughs(0, 5, what), Edges.BAD);
        }
    }
}
