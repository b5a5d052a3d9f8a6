/** Boundary cases of strokes, long runs and seeds: Terms 3, promises 22 to 26. */
public final class StrokeEdgesTest {
    private static final int[] SEEDS = {0, 1, -1, 2, 5, 7, 9, 12345, -12345, 65535, 65536, 1 << 30,
        Integer.MAX_VALUE, Integer.MIN_VALUE, 1103515245, -1103515245, 99, 1000003};

    public static void main(String[] args) throws Exception {
        Edges.runAll(StrokeEdgesTest.class);
    }

    /**
     * Terms 3: "STROKE: WEIGHTS (0 to 9; 0 at first) that it comes behind 0 to 4 TALES"
     * Promise 22: "The WEIGHT that the stroke comes behind so many TALES (0 to 4): what it was."
     */
    static void weights() {
        for (int tales = 0; tales <= 4; tales++) {
            LaughsLast x = Edges.in("p5000;t9");
            Edges.due("weight at first", x.weight(tales, 9), 0);
            for (int v = 8; v >= 0; v--) {
                Edges.due("weight was", x.weight(tales, v), v + 1);
                Edges.due("weights together", x.count(6), v);
            }
            x.weight(tales, 5);
            for (int other = 0; other <= 4; other++) {
                Edges.due("weight of another", x.weight(other, 0), other == tales ? 5 : 0);
            }
        }
    }

    /** Promise 22: "BAD." */
    static void badWeight() {
        Edges.Made made = () -> Edges.busy("p9219;p5134;t9");
        for (int tales : Edges.outside(0, 4)) {
            Edges.refused("weight(" + tales + ", 1)", made, x -> x.weight(tales, 1), Edges.BAD);
        }
        for (int v : Edges.outside(0, 9)) {
            Edges.refused("weight(0, " + v + ")", made, x -> x.weight(0, v), Edges.BAD);
            Edges.refused("weight(4, " + v + ")", made, x -> x.weight(4, v), Edges.BAD);
        }
    }

    /**
     * Terms 3: "STROKE: WEIGHTS (0 to 9; 0 at first) that it comes behind 0 to 4 TALES (behind all, if there are fewer):
     * EARLY: with what chance one OWES it then; NOT, if all are 0."
     * Promise 23: "EARLY: above, below."
     */
    static void earlyBehindAllIfThereAreFewer() {
        // Behind a tale 0 has it with 1 less by half of what it was: 1, 1 by 2, 1 by 4, ...
        StringBuilder room = new StringBuilder("p0000;p5000;o0");
        for (int tales = 0; tales <= 4; tales++) {
            for (int told = 0; told <= 4; told++) {
                LaughsLast x = Edges.in(room.toString());
                x.weight(told, 9);
                long below = 1L << (Math.min(told, tales) + 1) / 2;
                early("behind " + told + " of " + tales, x, 0, 1, below);
                early("the other, behind " + told + " of " + tales, x, 1, below - 1, below);
            }
            room.append(tales % 2 == 0 ? ";t9" : ";t0");
        }
        LaughsLast all = Edges.in("p0000;p5000;o0;t9;t0;t9;t0");
        for (int told = 0; told <= 4; told++) {
            all.weight(told, 9);
        }
        early("all weights of 9", all, 0, 1 * 4 + 2 * 2 + 2 * 1, 20);
        LaughsLast some = Edges.in("p0000;p5000;o0;t9");
        some.weight(0, 1);
        some.weight(1, 1);
        some.weight(4, 2);
        early("with those of fewer tales", some, 0, 5, 8);
    }

    private static void early(String call, LaughsLast x, int p, long above, long below) {
        long divisor = 1;
        for (long d = 2; d <= below; d++) {
            divisor = above % d == 0 && below % d == 0 ? d : divisor;
        }
        Edges.fraction(call, x.early(p, 0), x.early(p, 1), above / divisor, below / divisor);
    }

    /** Promise 23: "BAD; NOT. (As the least long and x more.)" Terms 3: "NOT, if all are 0." */
    static void badEarly() {
        Edges.Made made = () -> Edges.busy("p9219;p5134;t9;t4");
        Edges.Made none = () -> Edges.in("p9219;p5134;t9;t4");
        for (int p : Edges.outside(0, 1)) {
            Edges.refused("early(" + p + ", 0)", made, x -> x.early(p, 0), Edges.BAD_LONG);
            Edges.refused("early(" + p + ", 0): BAD ahead of NOT", none, x -> x.early(p, 0), Edges.BAD_LONG);
        }
        for (int what : Edges.outside(0, 1)) {
            Edges.refused("early(0, " + what + ")", made, x -> x.early(0, what), Edges.BAD_LONG);
            Edges.refused("early(0, " + what + "): BAD ahead of NOT", none, x -> x.early(0, what), Edges.BAD_LONG);
        }
        Edges.refused("early without people", () -> Edges.busy("t9"), x -> x.early(0, 0), Edges.BAD_LONG);
        Edges.refused("early without weights, above", none, x -> x.early(0, 0), Edges.NOT_LONG);
        Edges.refused("early without weights, below", none, x -> x.early(1, 1), Edges.NOT_LONG);
        for (int tales = 0; tales <= 4; tales++) {
            LaughsLast x = none.make();
            x.weight(tales, 1);
            Edges.due("a weight is there", x.early(0, 1) < 0 ? 1 : 0, 0);
            x.weight(tales, 0);
            Edges.due("no weight again", x.early(0, 0), Edges.NOT_LONG);
        }
    }

    /**
     * Terms 3: "TWO: with just two PEOPLE, evening upon evening alike, each begun by the one who has it then:
     * the share of evenings that end with the first, in the long run;"
     * Promise 24: "TWO: above, below."
     */
    static void two() {
        two("1 alone by 1 of 8, 0 alone by 3 of 8", Edges.in("p5000;p3000;t9;m0"), 3, 4);
        for (int o = 0; o < 2; o++) {
            two("whoever begins", Edges.in("p5000;p5000;t9;m0;o" + o), 1, 2);
            two("only the first may get it", Edges.in("p5000;p0000;t9;o" + o), 1, 1);
            two("only the other may get it", Edges.in("p0000;p5000;t9;o" + o), 0, 1);
            for (int law = 0; law <= 2; law++) {
                two("the least takes it", Edges.in("p9000;p9000;t9;m1;l" + law + ";o" + o), 1, 1);
                two("alike", Edges.in("p9000;p9000;t9;m2;l" + law + ";o" + o), 1, 2);
            }
        }
        LaughsLast x = Edges.in("p9000;p9000;t9;t9;m1;l0");
        x.leaves(0, 1);
        two("the last of each evening", x, 0, 1);
        Edges.type(x, ";l1");
        two("the first of each evening", x, 1, 1);
    }

    /** Terms 3: "NOT: PEOPLE are not two, or each keeps it for good." Promise 24: "BAD; NOT. (As the least long and x more.)" */
    static void notTwo() {
        for (String room : new String[] {"", "t9", "p9000;t9", "p9000;p9000;p9000;t9", "p9000;p9000;p9000;p9000;t9"}) {
            Edges.refused("two, not of two: " + room, () -> Edges.busy(room), x -> x.two(0), Edges.NOT_LONG);
            Edges.refused("two, not of two, below: " + room, () -> Edges.busy(room), x -> x.two(1), Edges.NOT_LONG);
        }
        for (String room : new String[] {"p9000;p9000", "p9000;p9000;t0", "p0000;p0000;t9", "p9000;p9000;t9;m0"}) {
            Edges.due("each keeps it: " + room, Edges.in(room).two(0), Edges.NOT_LONG);
            Edges.due("each keeps it, below: " + room, Edges.in(room).two(1), Edges.NOT_LONG);
        }
        LaughsLast left = Edges.in("p9000;p9000;t9;m1");
        left.leaves(0, 0);
        two("one has left", left, 0, 1);
        left.leaves(1, 0);
        Edges.due("both have left", left.two(0), Edges.NOT_LONG);
        for (int what : Edges.outside(0, 1)) {
            Edges.refused("two(" + what + ")", () -> Edges.busy("p9000;p9000;t9"), x -> x.two(what), Edges.BAD_LONG);
            Edges.refused("two(" + what + "): BAD ahead of NOT", () -> Edges.busy("p9000;t9"), x -> x.two(what), Edges.BAD_LONG);
            Edges.refused("two(" + what + "): BAD ahead of NOT", () -> Edges.in("p9000;p9000"), x -> x.two(what), Edges.BAD_LONG);
        }
    }

    private static void two(String call, LaughsLast x, long above, long below) {
        Edges.fraction(call, x.two(0), x.two(1), above, below);
    }

    /**
     * Terms 3: "LOTS of m: SEED becomes 1103515245 SEED and 12345, as ints that wrap; its upper 16 bits as a number from 0 on, modulo m."
     * Promise 25: "MADE: who OWES it at the end."
     */
    static void lotsThatWrap() {
        int[] ticklish = {0, 3, 5, 7, 9};
        boolean highest = false;
        for (int seed : SEEDS) {
            for (int quarters = 0; quarters <= 4; quarters++) {
                String room = "p" + ticklish[quarters] + "000;p0000;t9;o1";
                int due = new Lots(seed).of(4) < quarters ? 0 : 1;
                Edges.due("made(" + seed + ") in " + room, Edges.in(room).made(seed), due);
            }
            highest |= new Lots(seed).of(65536) >= 32768;
        }
        Edges.due("a seed of those wraps to below 0", highest ? 1 : 0, 1);
    }

    /**
     * Terms 3: "MADE: an evening by a SEED: for each TALE, of PEOPLE who are there, 0 on, a LOT of 4: who laughs,
     * if it is less than one's quarters;"
     */
    static void aLotForEachWhoIsThere() {
        int[] ended = new int[2];
        for (int seed : SEEDS) {
            Lots lots = new Lots(seed);
            int one = lots.of(4) < 2 ? 1 : 0;
            int other = lots.of(4) < 2 ? 1 : 0;
            LaughsLast x = Edges.in("p0000;p5000;t9;o0");
            Edges.due("who is there, if not ticklish, has a lot", x.made(seed), other);
            x.leaves(0, 0);
            Edges.due("who left has none", x.made(seed), one);
            LaughsLast y = Edges.in("p0000;p5000;t9;t0;t0;t0;o0");
            y.leaves(1, 1);
            Edges.due("lots of later tales change nothing", y.made(seed), other);
            ended[other]++;
        }
        Edges.due("both ends come", ended[0] > 0 && ended[1] > 0 ? 1 : 0, 1);
        for (int seed : SEEDS) {
            LaughsLast x = Edges.in("p9000;p5000;t9;t0;t9;m1;o0");
            x.leaves(0, 2);
            Lots lots = new Lots(seed);
            for (int k = 0; k < 4; k++) {
                lots.of(4);
            }
            Edges.due("a lot at a tale that is not funny, too", x.made(seed), lots.of(4) < 2 ? 1 : 0);
        }
    }

    /**
     * Terms 3: "ALIKE, where SEVERAL laughed (by FIRST, too, where it stays as it is): then a LOT of how many laughed tells
     * who of these (the least one first) has it."
     */
    static void aLotWhereSeveralLaughed() {
        for (int seed : SEEDS) {
            for (int n = 2; n <= 4; n++) {
                StringBuilder room = new StringBuilder("t9;m2;o0");
                Lots lots = new Lots(seed);
                for (int p = 0; p < 4; p++) {
                    room.append(p < 4 - n ? ";p0000" : ";p9000");
                    lots.of(4);
                }
                Edges.due("one of " + n, Edges.in(room.toString()).made(seed), 4 - n + lots.of(n));
            }
            theNextTale(seed, "p9000;p9000;p5000;t9;t0;t9;m2", 2);
            theNextTale(seed, "p9000;p0000;p5000;t9;t0;t9;m2", 1);
            theNextTale(seed, "p9000;p9000;p5000;t9;t0;t9;m1", 2);
            theNextTale(seed, "p9000;p9000;p5000;t9;t0;t9;m0", 2);
        }
    }

    /** At the first tale 0 (and 1) surely laughs, and 2 by a half; only 2 is there for the others, and laughs at the last by a half. */
    private static void theNextTale(int seed, String room, int sure) {
        LaughsLast x = Edges.in(room);
        x.leaves(0, 1);
        x.leaves(1, 1);
        Lots lots = new Lots(seed);
        lots.of(4);
        lots.of(4);
        int laughed = lots.of(4) < 2 ? sure + 1 : sure;
        int owner = 0;
        if (laughed > 1 && room.endsWith("m2")) {
            int lot = lots.of(laughed);
            owner = lot < sure ? lot : 2;
        }
        lots.of(4);
        Edges.due("made(" + seed + ") in " + room, x.made(seed), lots.of(4) < 2 ? 2 : owner);
    }

    /** Terms 3: "(by FIRST, too, where it stays as it is)" */
    static void aLotByFirstToo() {
        int[] ended = new int[2];
        for (int seed : SEEDS) {
            LaughsLast x = Edges.in("p9000;p9000;t9;t9;t9;m2;l1");
            Lots lots = new Lots(seed);
            lots.of(4);
            lots.of(4);
            int owner = lots.of(2);
            Edges.due("by FIRST it stays", x.made(seed), owner);
            // The lots of the second evening begin behind nine of the first.
            for (int k = 0; k < 6 + 2; k++) {
                lots.of(k % 3 == 2 ? 2 : 4);
            }
            int next = lots.of(2);
            Edges.due("by FIRST, a lot where it stays", x.evenings(seed, 2, 0), (owner == 0 ? 1 : 0) + (next == 0 ? 1 : 0));
            ended[next]++;
        }
        Edges.due("both ends come", ended[0] > 0 && ended[1] > 0 ? 1 : 0, 1);
    }

    /** Terms 1: "SEVERAL do: NOBODY: all stays; LEAST: it is the least number's;" Promise 25: "MADE: who OWES it at the end." */
    static void noLotWhereAllStaysOrTheLeastHasIt() {
        String[] people = {"p0000;p9000;p0000;p9000", "p0000;p9000;p9000;p9000", "p9000;p9000;p9000;p9000"};
        int[] least = {1, 1, 0};
        for (int seed : SEEDS) {
            for (int k = 0; k < people.length; k++) {
                for (int owner = 0; owner < 4; owner++) {
                    String room = people[k] + ";t9;o" + owner;
                    Edges.due("NOBODY in " + room, Edges.in(room + ";m0").made(seed), owner);
                    Edges.due("LEAST in " + room, Edges.in(room + ";m1").made(seed), least[k]);
                }
            }
        }
    }

    /** Promise 25: "NOT: no PEOPLE." */
    static void madeOfNobody() {
        for (int seed : SEEDS) {
            for (String room : new String[] {"", "t9", "t9;o1", "p9000;"}) {
                Edges.due("made(" + seed + ") in " + room, Edges.in(room).made(seed), Edges.NOT);
            }
            Edges.due("made(" + seed + ") without tales", Edges.in("p9000;p9000;o1").made(seed), 1);
            Edges.due("made(" + seed + ") of one", Edges.in("p9000;t9").made(seed), 0);
        }
        Edges.refused("made of nobody", () -> Edges.busy("t9"), x -> x.made(1), Edges.NOT);
        Edges.changesNothing("made(1)", () -> Edges.busy("p9000;p9000;t9"), x -> x.made(1));
    }

    /**
     * Terms 3: "EVENINGS: of n (1 to 200), one behind the other by the same SEED going on, each begun as the first:
     * how many end with one."
     * Promise 26: "EVENINGS: how many end with one."
     */
    static void oneToTwoHundredEvenings() {
        for (int seed : SEEDS) {
            for (int n : new int[] {1, 2, 199, 200}) {
                Lots lots = new Lots(seed);
                int ends = 0;
                for (int k = 0; k < n; k++) {
                    ends += lots.of(4) < 2 ? 1 : 0;
                    lots.of(4);
                }
                LaughsLast x = Edges.in("p5000;p0000;t9;o1");
                Edges.due("evenings(" + seed + ", " + n + ", 0)", x.evenings(seed, n, 0), ends);
                Edges.due("evenings(" + seed + ", " + n + ", 1), begun as the first", x.evenings(seed, n, 1), n - ends);
            }
            LaughsLast x = Edges.in("p5000;p0000;t9;o1");
            Edges.due("one evening is the one made", x.evenings(seed, 1, x.made(seed)), 1);
            Edges.due("without tales", Edges.in("p5000;p5000;o1").evenings(seed, 200, 1), 200);
            Edges.due("without tales", Edges.in("p5000;p5000;o1").evenings(seed, 200, 0), 0);
        }
    }

    /** Promise 26: "BAD (n 1 to 200)." */
    static void badEvenings() {
        Edges.Made made = () -> Edges.busy("p9219;p5134;t9;t4");
        for (int n : Edges.outside(1, 200)) {
            Edges.refused("evenings(5, " + n + ", 0)", made, x -> x.evenings(5, n, 0), Edges.BAD);
        }
        for (int p : Edges.outside(0, 1)) {
            Edges.refused("evenings(5, 1, " + p + ")", made, x -> x.evenings(5, 1, p), Edges.BAD);
        }
        Edges.refused("evenings without people", () -> Edges.busy("t9"), x -> x.evenings(5, 1, 0), Edges.BAD);
        Edges.changesNothing("evenings(5, 200, 0)", made, x -> x.evenings(5, 200, 0));
    }

    /** The lots of the document, in longs. */
    private static final class Lots {
        private long seed;

        Lots(int seed) {
            this.seed = seed & 0xffffffffL;
        }

        int of(int m) {
            seed = (1103515245L * seed + 12345) % (1L << 32);
            return (int) ((seed >> 16) % m);
        }
    }
}
