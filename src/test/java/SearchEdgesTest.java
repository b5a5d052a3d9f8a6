/** Boundary cases of the best ways, orders, company and laws: Terms 2, promises 14 to 21. */
public final class SearchEdgesTest {
    private static final String SURE = "p9000;", NEVER = "p0000;";

    public static void main(String[] args) throws Exception {
        Edges.runAll(SearchEdgesTest.class);
    }

    /**
     * Terms 2: "BEST of one, others going on as they do: HOLDS (of TALES that there are) and LEAVES (one that there is, or 4)
     * with the least COST; of like ones the later LEAVES, then the lesser HOLDS."
     * Promise 14: "BEST: COST above (what = 0), below (1), HOLDS (2), LEAVES (3)."
     */
    static void bestOfLikeOnes() {
        best("nothing to laugh at", "p0000", 0, 4, 0, 1);
        best("all of like cost, no tales", "p9009", 0, 4, 9, 1);
        best("all of like cost, four tales", "p0000;t9;t9;t9;t9", 0, 4, 0, 1);
        best("holding nothing, which costs nothing", "p9009;p0000;t0;t0;t0;t0;o1", 0, 4, 0, 1);
        best("leaves at once", "p9009;p0000;t9;t9;t9;t9;o1", 0, 0, 0, 1);
        best("later, of like ones", "p9009;p0000;t0;t9;t9;t9;o1", 0, 1, 0, 1);
        best("later, of like ones", "p9009;p0000;t0;t0;t9;t9;o1", 0, 2, 0, 1);
        best("later, of like ones", "p9009;p0000;t0;t0;t0;t9;o1", 0, 3, 0, 1);
        best("never, ahead of the lesser holds", "p5009;p0000;t9;t0;o1", 1, 4, 0, 1);
        best("the lesser holds", "p5009;p0000;t0;t9;o1", 2, 4, 0, 1);
        best("no tale to leave ahead of but the first", "p9009;p0000;t9;o1", 0, 0, 0, 1);
        best("never, as it has it anyway", "p9009;p0000;t9;o0", 0, 4, 9, 1);
    }

    /** Terms 2: "HOLDS (of TALES that there are) and LEAVES (one that there is, or 4) with the least COST" */
    static void bestHoldsAll() {
        best("holds one", "p5099;p0000;t9;o1", 1, 4, 0, 1);
        best("holds each of four", "p4199;p0000;t5;t5;t5;t5;o1", 15, 4, 4, 1);
        best("holds none, as it is dear", "p4999;p0000;t5;o1", 0, 4, 9, 4);
        best("leaves, as that is cheaper", "p4919;p0000;t5;o1", 0, 0, 1, 1);
        best("holds, as that costs as much as to leave", "p4119;p0000;t5;o1", 1, 4, 1, 1);
        // To hold it at the first and leave ahead of the second; to laugh at the second is sure.
        best("holds, then leaves", "p6008;p0000;t4;t9;t9;t9;o1", 1, 1, 0, 1);
    }

    /** Terms 2: "others going on as they do" */
    static void bestByTheWaysOfOthers() {
        LaughsLast x = Edges.in("p9009;p9000;t9;t9;m1;o1");
        x.holds(0, 3);
        x.leaves(0, 2);
        Edges.due("leaves when another may still take it", x.best(0, 3), 1);
        Edges.due("holds as they were", x.holds(0, 3), 3);
        Edges.due("leaves as they were", x.leaves(0, 2), 2);
        LaughsLast y = Edges.in("p0000;p9009;t9;t9;m1;o0");
        Edges.due("of the other, who may laugh", y.best(1, 3), 0);
        y.leaves(1, 1);
        Edges.due("of the other, who has left", y.best(1, 3), 0);
        LaughsLast z = Edges.in("p9000;p9009;t9;t9;m1;o0");
        Edges.due("the first takes it", z.best(1, 3), 4);
        z.leaves(0, 1);
        Edges.due("the first is away at the last", z.best(1, 3), 1);
    }

    /** Promise 14: "BAD. (As the least long and x more.)" */
    static void badBest() {
        Edges.Made made = () -> Edges.busy("p9219;p5134;t9;t4");
        for (int p : Edges.outside(0, 1)) {
            Edges.refused("best(" + p + ", 0)", made, x -> x.best(p, 0), Edges.BAD_LONG);
        }
        for (int what : Edges.outside(0, 3)) {
            Edges.refused("best(0, " + what + ")", made, x -> x.best(0, what), Edges.BAD_LONG);
        }
        Edges.refused("best without people", () -> Edges.busy("t9"), x -> x.best(0, 0), Edges.BAD_LONG);
        for (int what = 0; what < 4; what++) {
            int of = what;
            Edges.changesNothing("best(0, " + of + ")", made, x -> x.best(0, of));
        }
    }

    /**
     * Terms 2: "REST: from WAYS as they are, PEOPLE 0 on, round and round, each takes the BEST, until nobody's COST becomes less
     * by it through a whole round: WAYS then, and how many rounds it took (that one, too);"
     */
    static void rounds() {
        Edges.due("nobody", new LaughsLast().rest(Edges.NONE, 0), 1);
        Edges.due("nobody, by tales", Edges.in("t9;t9").rest(Edges.NONE, 0), 1);
        Edges.due("nothing becomes less", Edges.in("p0000;p0000;t9").rest(Edges.NONE, 0), 1);
        rested("one leaves, then it rests", "p9009;p0000;t9;o1", 2, new int[] {0, 0}, new int[] {0, 4});
        rested("one leaves, so that the other takes it, who leaves then", "p9009;p9009;t9;m0;o0", 2, new int[] {0, 0}, new int[] {0, 0});
        rested("the other leaves when the first has", "p9009;p9009;p0000;t9;m1;o2", 2, new int[] {0, 0, 0}, new int[] {0, 0, 4});
        // Found by a search; the model has gone through them, too.
        for (String[] found : new String[][] {{"p5394;p8074;t4;l2;m0;o1", "2"}, {"p5156;p9072;t7;l1;m2;o1", "3"},
            {"p7019;p8016;t9;l1;m1;o0", "4"}, {"p5051;p9028;t5;t9;t8;l2;m0;o1", "5"}}) {
            Edges.due("rounds in " + found[0], Edges.in(found[0]).rest(Edges.NONE, 0), Integer.parseInt(found[1]));
        }
    }

    /** Terms 2: "from WAYS as they are" "(one changes WAYS only where COST becomes less)." */
    static void restFromWaysAsTheyAre() {
        LaughsLast x = Edges.in("p9009;p0000;t9;o1");
        x.holds(0, 14);
        x.holds(1, 15);
        x.leaves(1, 3);
        Edges.due("rounds", x.rest(Edges.NONE, 0), 2);
        Edges.due("who leaves takes the best holds, too", x.rest(0, 0), 0);
        Edges.due("who leaves", x.rest(0, 1), 0);
        Edges.due("of like cost the holds stay", x.rest(1, 0), 15);
        Edges.due("of like cost the leaves stay", x.rest(1, 1), 3);
        Edges.due("ways themselves stay", x.holds(0, 0), 14);
        Edges.due("ways themselves stay", x.leaves(0, 4), 4);
        LaughsLast y = Edges.in("p9009;p0000;t9;t9;o1");
        y.leaves(0, 0);
        Edges.due("where it rests already", y.rest(Edges.NONE, 0), 1);
        y.leaves(0, 1);
        Edges.due("where it does not", y.rest(Edges.NONE, 0), 2);
    }

    /**
     * Terms 2: "after 20 rounds NONE (one changes WAYS only where COST becomes less)."
     * Promise 15: "REST: rounds (p = NONE, what 0; NONE), HOLDS of one (what = 0), LEAVES (1; also if it does not come to rest: behind 20 rounds)."
     */
    static void noRest() {
        String room = "p7127;p6112;p8001;t4;t5;l0;m1";
        LaughsLast x = Edges.in(room);
        Edges.due("no rest", x.rest(Edges.NONE, 0), Edges.NONE);
        int[][] rested = behindTwentyRounds(room, 3, 20);
        int[][] sooner = behindTwentyRounds(room, 3, 19);
        boolean alike = true;
        for (int p = 0; p < 3; p++) {
            Edges.due("holds of " + p + " behind 20 rounds", x.rest(p, 0), rested[p][0]);
            Edges.due("leaves of " + p + " behind 20 rounds", x.rest(p, 1), rested[p][1]);
            alike &= rested[p][0] == sooner[p][0] && rested[p][1] == sooner[p][1];
        }
        Edges.due("one round less would end otherwise", alike ? 1 : 0, 0);
        for (String more : new String[] {"p9216;p7226;t6;l0;m0", "p9114;p7015;p5219;p8005;t3;t7;t6;l2;m0",
            "p7226;p5013;p8216;p7125;t6;t6;t4;t3;l1;m1", "p9227;p5118;t9;l1;m0"}) {
            Edges.due("no rest in " + more, Edges.in(more).rest(Edges.NONE, 0), Edges.NONE);
        }
    }

    /** By the calls best() and cost(), of another object at each turn, as its 512 calls would not do. */
    private static int[][] behindTwentyRounds(String room, int people, int rounds) {
        int[][] ways = new int[people][];
        for (int p = 0; p < people; p++) {
            ways[p] = new int[] {0, 4};
        }
        for (int turn = 0; turn < rounds * people; turn++) {
            LaughsLast x = Edges.in(room);
            for (int p = 0; p < people; p++) {
                x.holds(p, ways[p][0]);
                x.leaves(p, ways[p][1]);
            }
            int p = turn % people;
            boolean less = x.best(p, 0) * x.cost(p, 1) < x.cost(p, 0) * x.best(p, 1);
            if (less) {
                ways[p] = new int[] {(int) x.best(p, 2), (int) x.best(p, 3)};
            }
        }
        return ways;
    }

    /** Promise 15: "REST: rounds (p = NONE, what 0; NONE)" "BAD." */
    static void badRest() {
        Edges.Made made = () -> Edges.busy("p9219;p5134;t9;t4");
        for (int p : new int[] {Integer.MIN_VALUE, -4, -3, -2, 2, 3, 4, Integer.MAX_VALUE}) {
            Edges.refused("rest(" + p + ", 0)", made, x -> x.rest(p, 0), Edges.BAD);
            Edges.refused("rest(" + p + ", 1)", made, x -> x.rest(p, 1), Edges.BAD);
        }
        for (int what : Edges.outside(0, 1)) {
            Edges.refused("rest(0, " + what + ")", made, x -> x.rest(0, what), Edges.BAD);
            Edges.refused("rest(NONE, " + what + ")", made, x -> x.rest(Edges.NONE, what), Edges.BAD);
        }
        Edges.refused("rest(NONE, 1)", made, x -> x.rest(Edges.NONE, 1), Edges.BAD);
        Edges.refused("rest without people", () -> Edges.busy("t9"), x -> x.rest(0, 0), Edges.BAD);
        Edges.changesNothing("rest(NONE, 0)", made, x -> x.rest(Edges.NONE, 0));
        Edges.changesNothing("rest(0, 1)", made, x -> x.rest(0, 1));
    }

    /**
     * Terms 2: "ORDER for one: of all orders of the TALES (HOLDS and LEAVES by their places, as they are) that by which
     * one's AMOUNT is least, of like ones the least row."
     * Promise 16: "ORDER for one: the TALE at a place (0 on)."
     */
    static void orders() {
        order("of like ones the least row", Edges.in("p0000;t1;t2;t3;t4"), 0, 1, 2, 3);
        order("one tale", Edges.in("p9000;t9"), 0);
        order("of like ones the least row", Edges.in("p9000;p9000;t5;t5;t5;t5;m2"), 0, 1, 2, 3);
        LaughsLast x = Edges.in("p9000;p0000;t9;t0;t0;t0;o1");
        order("laughs wherever it is told", x, 0, 1, 2, 3);
        x.leaves(0, 3);
        order("leaves by its place", x, 1, 2, 3, 0);
        x.leaves(0, 1);
        order("the least row of those", x, 1, 0, 2, 3);
        x.leaves(0, 0);
        order("away, so of like ones the least", x, 0, 1, 2, 3);
        LaughsLast y = Edges.in("p5000;p0000;t9;t0;t0;t0;o1");
        y.holds(0, 8);
        order("holds by its place", y, 1, 2, 3, 0);
        y.holds(0, 4);
        order("holds by its place", y, 1, 2, 0, 3);
        for (String tales : new String[] {"t9", "t9;t8", "t9;t8;t7"}) {
            LaughsLast some = Edges.in("p9000;p0000;t1;t1;t1;t0");
            some.wipe();
            Edges.type(some, "p9000;p0000;o1;" + tales);
            order("only of the tales that there are", some, new int[] {0, 1, 2}, tales.split(";").length);
        }
        LaughsLast two = Edges.in("p4000;p0000;t5;t4;o1");
        order("the moods go with the order", two, 1, 0);
        two.wipe();
        Edges.type(two, "p4000;p0000;t5;o1");
        order("one tale, behind two", two, 0);
        // Found by a search; the model has gone through it, too.
        order("the last row of all", Edges.in("p5068;p5083;t2;t6;t4;t8;l1;m2;o0"), 3, 2, 1, 0);
    }

    /** Promise 16: "BAD." */
    static void badOrder() {
        Edges.Made made = () -> Edges.busy("p9219;p5134;t9;t4");
        for (int p : Edges.outside(0, 1)) {
            Edges.refused("order(" + p + ", 0)", made, x -> x.order(p, 0), Edges.BAD);
        }
        for (int place : Edges.outside(0, 1)) {
            Edges.refused("order(0, " + place + ")", made, x -> x.order(0, place), Edges.BAD);
        }
        Edges.refused("order without tales", () -> Edges.busy("p9219"), x -> x.order(0, 0), Edges.BAD);
        Edges.refused("order without people", () -> Edges.busy("t9"), x -> x.order(0, 0), Edges.BAD);
        Edges.refused("order at a fifth place", () -> Edges.busy("p9219;t1;t2;t3;t4"), x -> x.order(0, 4), Edges.BAD);
        Edges.changesNothing("order(0, 0)", made, x -> x.order(0, 0));
    }

    /**
     * Terms 2: "AMONG: which of the others (bits; one at least) to sit with, all else away (who OWES it at first is there;
     * if it is another one, who is always among them), such that one's AMOUNT is least, of like ones the least bits."
     * Promise 17: "AMONG, as bits."
     */
    static void amongOthers() {
        String four = NEVER + NEVER + NEVER + "p0000";
        Edges.due("of like ones the least", Edges.in(four).among(0), 2);
        Edges.due("one at least", Edges.in(four).among(1), 1);
        Edges.due("one at least", Edges.in(four).among(2), 1);
        Edges.due("one at least", Edges.in(four).among(3), 1);
        for (int o = 0; o < 4; o++) {
            for (int p = 0; p < 4; p++) {
                int due = o == p ? (p == 0 ? 2 : 1) : 1 << o;
                Edges.due("who owes it is among them, o" + o, Edges.in(four + ";t9;o" + o).among(p), due);
            }
        }
        Edges.due("one of two", Edges.in(NEVER + "p0000").among(0), 2);
        Edges.due("one of two", Edges.in(NEVER + "p0000").among(1), 1);
        String alike = SURE + SURE + SURE + SURE + "t9;m2";
        int[] all = {14, 13, 11, 7};
        for (int p = 0; p < 4; p++) {
            Edges.due("with all of them", Edges.in(alike).among(p), all[p]);
        }
        Edges.due("only the last takes it", Edges.in(NEVER + NEVER + NEVER + SURE + "t9").among(0), 8);
        Edges.due("only the last takes it, and the owner", Edges.in(NEVER + NEVER + NEVER + SURE + "t9;m1;o1").among(2), 2);
        Edges.due("who takes it, and the owner", Edges.in(SURE + NEVER + SURE + "t9;m0;o1").among(0), 6);
        LaughsLast left = Edges.in(NEVER + SURE + SURE + "t9;m1");
        Edges.due("the least of those who take it", left.among(0), 2);
        left.leaves(1, 0);
        Edges.due("who leaves does not take it", left.among(0), 4);
    }

    /** Promise 17: "BAD; NOT: there are no others." */
    static void badAmong() {
        for (int p : Edges.outside(0, 2)) {
            Edges.refused("among(" + p + ")", () -> Edges.busy("p9219;p5134;p1111;t9"), x -> x.among(p), Edges.BAD);
        }
        for (int p : Edges.outside(0, 0)) {
            Edges.refused("among(" + p + "): BAD ahead of NOT", () -> Edges.busy("p9219;t9"), x -> x.among(p), Edges.BAD);
        }
        Edges.refused("among with no others", () -> Edges.busy("p9219;t9"), x -> x.among(0), Edges.NOT);
        Edges.refused("among without tales, with no others", () -> Edges.busy("p9219"), x -> x.among(0), Edges.NOT);
        Edges.refused("among without people", () -> Edges.busy("t9"), x -> x.among(0), Edges.BAD);
        Edges.changesNothing("among(0)", () -> Edges.busy("p9219;p5134;t9"), x -> x.among(0));
    }

    /**
     * Terms 2: "HIRE: somebody more (3 PEOPLE at most: FULL), numbered behind all, TICKLISH as told, never HOLDS, LEAVES:
     * by how much one's COST is less then (below 0: more)."
     */
    static void hired() {
        LaughsLast one = Edges.in("p9114;t9;m2");
        hire("half of it", one, 0, 9, 2, 1);
        hire("TICKLISH 0 never laughs", one, 0, 0, 0, 1);
        hire("TICKLISH 5: 2 quarters, of which half is one's", one, 0, 5, 1, 1);
        for (int k = 1; k <= 3; k++) {
            StringBuilder room = new StringBuilder();
            for (int p = 0; p < k; p++) {
                room.append("p0009;");
            }
            LaughsLast x = Edges.in(room + "t9;o0");
            hire(k + " are well", x, 0, 9, 9, 1);
            x.holds(k, 15);
            x.leaves(k, 0);
            hire("never holds nor leaves, behind " + k, x, 0, 9, 9, 1);
            Edges.due("the ways stay", x.holds(k, 0), 15);
            Edges.due("the ways stay", x.leaves(k, 4), 0);
            Edges.due("nobody more is there", x.count(0), k);
        }
        hire("numbered behind all", Edges.in("p9009;p0000;t9;m1;l1"), 0, 9, 0, 1);
        hire("costs more, as several laugh", Edges.in("p0009;p9000;t9;m0"), 0, 9, -9, 1);
        hire("costs more, in lowest terms", Edges.in("p6003;p9000;t9;l1;m0;o0"), 0, 9, -3, 2);
        hire("without tales", Edges.in("p9009"), 0, 9, 0, 1);
        LaughsLast leaves = Edges.in("p9909;t9;m2");
        leaves.leaves(0, 0);
        hire("what one's ways cost stays", leaves, 0, 9, 9, 1);
    }

    /** Promise 18: "HIRE: above, below. BAD (TICKLISH 0 to 9); FULL. (As the least long and x more.)" */
    static void badHire() {
        Edges.Made made = () -> Edges.busy("p9219;p5134;p1111;t9;t4");
        Edges.Made full = () -> Edges.busy("p9219;p5134;p1111;p0000;t9");
        for (int p : Edges.outside(0, 2)) {
            Edges.refused("hire(" + p + ", 5, 0)", made, x -> x.hire(p, 5, 0), Edges.BAD_LONG);
        }
        for (int p : Edges.outside(0, 3)) {
            Edges.refused("hire(" + p + ", 5, 0): BAD ahead of FULL", full, x -> x.hire(p, 5, 0), Edges.BAD_LONG);
        }
        for (int ticklish : Edges.outside(0, 9)) {
            Edges.refused("hire(0, " + ticklish + ", 0)", made, x -> x.hire(0, ticklish, 0), Edges.BAD_LONG);
            Edges.refused("hire(0, " + ticklish + ", 0): BAD ahead of FULL", full, x -> x.hire(0, ticklish, 0), Edges.BAD_LONG);
        }
        for (int what : Edges.outside(0, 1)) {
            Edges.refused("hire(0, 5, " + what + ")", made, x -> x.hire(0, 5, what), Edges.BAD_LONG);
            Edges.refused("hire(0, 5, " + what + "): BAD ahead of FULL", full, x -> x.hire(0, 5, what), Edges.BAD_LONG);
        }
        Edges.refused("hire without people", () -> Edges.busy("t9"), x -> x.hire(0, 5, 0), Edges.BAD_LONG);
        Edges.refused("hire of a fifth, above", full, x -> x.hire(3, 0, 0), Edges.FULL_LONG);
        Edges.refused("hire of a fifth, below", full, x -> x.hire(0, 9, 1), Edges.FULL_LONG);
        Edges.changesNothing("hire(0, 9, 0)", made, x -> x.hire(0, 9, 0));
    }

    /**
     * Terms 2: "OTHER: one's AMOUNT by another LAW, SEVERAL."
     * Promise 19: "OTHER: above, below. BAD. (As the least long and x more.)"
     */
    static void otherLaws() {
        String people = "p5000;p5000;t9;t9;o1;";
        for (int k = 0; k < 9; k++) {
            LaughsLast told = Edges.in(people + "l" + k / 3 + ";m" + k % 3);
            for (int by = 0; by < 9; by++) {
                LaughsLast other = Edges.in(people + "l" + by / 3 + ";m" + by % 3);
                Edges.due("other " + by + " of " + k, told.other(0, by / 3, by % 3, 0), other.amount(0, 0));
                Edges.due("other " + by + " of " + k, told.other(0, by / 3, by % 3, 1), other.amount(0, 1));
            }
            Edges.due("the law stays", told.law(0), k / 3);
            Edges.due("several stays", told.law(1), k % 3);
        }
        Edges.Made made = () -> Edges.busy("p9219;p5134;t9;t4;l1;m2");
        for (int p : Edges.outside(0, 1)) {
            Edges.refused("other(" + p + ", 0, 0, 0)", made, x -> x.other(p, 0, 0, 0), Edges.BAD_LONG);
        }
        for (int k : Edges.outside(0, 2)) {
            Edges.refused("other(0, " + k + ", 0, 0)", made, x -> x.other(0, k, 0, 0), Edges.BAD_LONG);
            Edges.refused("other(0, 0, " + k + ", 0)", made, x -> x.other(0, 0, k, 0), Edges.BAD_LONG);
        }
        for (int what : Edges.outside(0, 1)) {
            Edges.refused("other(0, 0, 0, " + what + ")", made, x -> x.other(0, 0, 0, what), Edges.BAD_LONG);
        }
        Edges.refused("other without people", () -> Edges.busy("t9"), x -> x.other(0, 0, 0, 0), Edges.BAD_LONG);
        Edges.changesNothing("other(0, 0, 0, 0)", made, x -> x.other(0, 0, 0, 0));
    }

    /**
     * Terms 2: "LAW FOR one: of all nine (LAW, then SEVERAL) that with the least AMOUNT, of like ones the first."
     * Promise 20: "LAW FOR one: 3 times LAW, and SEVERAL. BAD."
     */
    static void lawsForOne() {
        Edges.due("of like ones the first", Edges.in("p9009;l2;m2").lawFor(0), 0);
        Edges.due("the first of those who give it away", Edges.in(NEVER + SURE + "t9;l2;m2").lawFor(0), 0);
        Edges.due("LAST, LEAST", Edges.in(NEVER + SURE + SURE + "t9;l2;m2").lawFor(0), 1);
        Edges.due("LAST, ALIKE", Edges.in(SURE + NEVER + SURE + "t9").lawFor(0), 2);
        // Both laugh at the first, 0 alone at the second: 1 of 1 but where it stays 1's by chance, or is halved.
        LaughsLast x = Edges.in(SURE + SURE + "t9;t9;o1");
        x.leaves(1, 1);
        Edges.due("FIRST, ALIKE", x.lawFor(0), 5);
        Edges.due("HALVED, NOBODY", Edges.in(SURE + "p0000;t9;o1").lawFor(0), 6);
        // 0 laughs by a half, 1 surely: a quarter by HALVED and LEAST, 3 by 8 at least by all others.
        LaughsLast y = Edges.in("p9000;p9000;t9;t9");
        y.holds(0, 3);
        Edges.due("HALVED, LEAST", y.lawFor(1), 7);
        // Found by a search; the model has gone through them, too.
        Edges.due("FIRST, NOBODY", Edges.in("p2019;p8186;t8;t3;l0;m1;o1").lawFor(0), 3);
        Edges.due("FIRST, LEAST", Edges.in("p2164;p5045;p9002;t9;t4;l0;m1;o0").lawFor(0), 4);
        Edges.due("HALVED, ALIKE", Edges.in("p8262;p5066;t9;t5;l0;m0;o0").lawFor(0), 8);
        for (int p : Edges.outside(0, 1)) {
            Edges.refused("lawFor(" + p + ")", () -> Edges.busy("p9219;p5134;t9;t4;l1;m2"), z -> z.lawFor(p), Edges.BAD);
        }
        Edges.refused("lawFor without people", () -> Edges.busy("t9"), z -> z.lawFor(0), Edges.BAD);
        Edges.changesNothing("lawFor(0)", () -> Edges.busy("p9219;t9;l1;m2"), z -> z.lawFor(0));
    }

    /**
     * Terms 2: "EDGE: how FUNNY the last TALE must be at least (0 to 9), that one's COST is less if one LEAVES ahead of it
     * (being there till then) than if one never LEAVES; NONE."
     * Promise 21: "EDGE; NONE."
     */
    static void edges() {
        // Without MOOD, TICKLISH 9 laughs by 1 quarter from FUNNY 3 on, 2 from 5, 3 from 7, 4 from 9 on.
        Edges.due("leaving costs nothing", Edges.in("p9009;p0000;t0;o1").edge(0), 3);
        Edges.due("leaving costs a quarter of 4", Edges.in("p9014;p0000;t0;o1").edge(0), 5);
        Edges.due("leaving costs 3 of 8 quarters", Edges.in("p9038;p0000;t0;o1").edge(0), 5);
        Edges.due("leaving costs 2 of 4", Edges.in("p9024;p0000;t0;o1").edge(0), 7);
        Edges.due("leaving costs 3 of 4", Edges.in("p9034;p0000;t0;o1").edge(0), 9);
        Edges.due("leaving costs as much", Edges.in("p9044;p0000;t0;o1").edge(0), Edges.NONE);
        Edges.due("leaving costs nothing, but brings nothing", Edges.in("p0009;p0000;t9;o1").edge(0), Edges.NONE);
        Edges.due("one has it anyway", Edges.in("p9009;p0000;t9").edge(0), Edges.NONE);
        LaughsLast held = Edges.in("p0509;p0000;t5;o1");
        Edges.due("holding it elsewhere", holding(held, 14).edge(0), Edges.NONE);
        Edges.due("from 0 on, not to hold it", holding(held, 1).edge(0), 0);
        Edges.due("how funny it is does not matter", Edges.in("p9009;p0000;t9;o1").edge(0), 3);
        Edges.due("by the mood ahead", Edges.in("p1009;p0000;t9;t0;o1").edge(0), 1);
        LaughsLast till = Edges.in("p9014;p0000;t0;t0;t0;t0;o1");
        for (int leaves = 0; leaves <= 4; leaves++) {
            till.leaves(0, leaves);
            Edges.due("being there till then, not leaving ahead of " + leaves, till.edge(0), 5);
            Edges.due("ways stay", till.leaves(0, leaves), leaves);
        }
        Edges.due("tales stay", till.tale(3), 0);
    }

    /** Promise 21: "BAD; NOT: no TALES." */
    static void badEdge() {
        for (int p : Edges.outside(0, 1)) {
            Edges.refused("edge(" + p + ")", () -> Edges.busy("p9219;p5134;t9"), x -> x.edge(p), Edges.BAD);
            Edges.refused("edge(" + p + "): BAD ahead of NOT", () -> Edges.busy("p9219;p5134"), x -> x.edge(p), Edges.BAD);
        }
        Edges.refused("edge without tales", () -> Edges.busy("p9219;p5134"), x -> x.edge(1), Edges.NOT);
        Edges.refused("edge without people", () -> Edges.busy("t9"), x -> x.edge(0), Edges.BAD);
        Edges.refused("edge in an empty room", () -> Edges.busy(""), x -> x.edge(0), Edges.BAD);
        Edges.changesNothing("edge(0)", () -> Edges.busy("p9219;p5134;t9;t4"), x -> x.edge(0));
    }

    private static LaughsLast holding(LaughsLast x, int bits) {
        x.holds(0, bits);
        return x;
    }

    private static void best(String call, String room, int holds, int leaves, long above, long below) {
        LaughsLast x = Edges.in(room);
        Edges.fraction(call + ": best of " + room, x.best(0, 0), x.best(0, 1), above, below);
        Edges.due(call + ": best holds of " + room, x.best(0, 2), holds);
        Edges.due(call + ": best leaves of " + room, x.best(0, 3), leaves);
    }

    private static void rested(String call, String room, int rounds, int[] holds, int[] leaves) {
        LaughsLast x = Edges.in(room);
        Edges.due(call + ": rounds", x.rest(Edges.NONE, 0), rounds);
        for (int p = 0; p < holds.length; p++) {
            Edges.due(call + ": holds of " + p, x.rest(p, 0), holds[p]);
            Edges.due(call + ": leaves of " + p, x.rest(p, 1), leaves[p]);
        }
    }

    private static void order(String call, LaughsLast x, int... row) {
        for (int place = 0; place < row.length; place++) {
            Edges.due(call + ": at " + place, x.order(0, place), row[place]);
        }
    }

    private static void order(String call, LaughsLast x, int[] row, int places) {
        for (int place = 0; place < places; place++) {
            Edges.due(call + ": at " + place, x.order(0, place), row[place]);
        }
        Edges.due(call + ": no more places", x.order(0, places), Edges.BAD);
    }

    private static void hire(String call, LaughsLast x, int p, int ticklish, long above, long below) {
        Edges.fraction(call, x.hire(p, ticklish, 0), x.hire(p, ticklish, 1), above, below);
    }
}
