/** Boundary cases of WAYS, laughing, LAWS, and of who OWES it and what it costs: Terms 1 and 2, promises 8 to 13. */
public final class WaysEdgesTest {
    /** One who surely laughs at a tale of 9, and one who never does. */
    private static final String SURE = "p9000;", NEVER = "p0000;";

    public static void main(String[] args) throws Exception {
        Edges.runAll(WaysEdgesTest.class);
    }

    /**
     * Terms 1: "WAYS: each of the PEOPLE (0 to 3, there or not) HOLDS it at some TALES (bits; none at first),
     * and LEAVES ahead of a TALE (0 to 3), or never (4; at first)."
     * Promise 8: "One (0 to 3) HOLDS it at TALES (bits, 0 to 15): what it was."
     */
    static void holdsOfEach() {
        for (String room : new String[] {"", "p5129;t6", "p5129;t6;"}) {
            for (int p = 0; p < 4; p++) {
                LaughsLast x = Edges.in(room);
                Edges.due("holds at first in " + room, x.holds(p, 15), 0);
                Edges.due("holds of all in " + room, x.holds(p, 0), 15);
                for (int bits = 1; bits <= 15; bits++) {
                    Edges.due("holds of " + (bits - 1) + " in " + room, x.holds(p, bits), bits - 1);
                }
                for (int other = 0; other < 4; other++) {
                    Edges.due("holds of another in " + room, x.holds(other, 0), other == p ? 15 : 0);
                    Edges.due("leaves by holds in " + room, x.leaves(other, 4), 4);
                }
            }
        }
    }

    /**
     * Terms 1: "and LEAVES ahead of a TALE (0 to 3), or never (4; at first)."
     * Promise 9: "One LEAVES ahead of a TALE (0 to 3; 4 never): what it was."
     */
    static void leavesOfEach() {
        for (String room : new String[] {"", "p5129;t6", "x"}) {
            for (int p = 0; p < 4; p++) {
                LaughsLast x = Edges.in(room);
                Edges.due("leaves at first in " + room, x.leaves(p, 0), 4);
                for (int i = 1; i <= 4; i++) {
                    Edges.due("leaves of " + (i - 1) + " in " + room, x.leaves(p, i), i - 1);
                }
                x.leaves(p, 0);
                for (int other = 0; other < 4; other++) {
                    Edges.due("leaves of another in " + room, x.leaves(other, 4), other == p ? 0 : 4);
                    Edges.due("holds by leaves in " + room, x.holds(other, 0), 0);
                }
            }
        }
    }

    /** Terms 1: "each of the PEOPLE (0 to 3, there or not)" */
    static void waysAheadOfThePeople() {
        LaughsLast x = new LaughsLast();
        x.holds(3, 8);
        x.leaves(2, 3);
        Edges.type(x, "p9000;p9000;p9000;p9000;t9;t9;t9;t9");
        int[][] due = {{4, 4, 4, 4}, {4, 4, 4, 4}, {4, 4, 4, 0}, {4, 4, 4, 2}};
        for (int p = 0; p < 4; p++) {
            for (int i = 0; i < 4; i++) {
                Edges.due("quarters(" + p + ", " + i + ")", x.quarters(p, i), due[p][i]);
            }
        }
    }

    /** Promise 8: "BAD." Terms 1: "(0 to 3, there or not)" */
    static void badHolds() {
        Edges.Made made = () -> Edges.busy("p9219;p5134;t9;t4");
        for (int p : Edges.outside(0, 3)) {
            Edges.refused("holds(" + p + ", 1)", made, x -> x.holds(p, 1), Edges.BAD);
        }
        for (int tales : Edges.outside(0, 15)) {
            Edges.refused("holds(0, " + tales + ")", made, x -> x.holds(0, tales), Edges.BAD);
        }
    }

    /** Promise 9: "BAD." */
    static void badLeaves() {
        Edges.Made made = () -> Edges.busy("p9219;p5134;t9;t4");
        for (int p : Edges.outside(0, 3)) {
            Edges.refused("leaves(" + p + ", 1)", made, x -> x.leaves(p, 1), Edges.BAD);
        }
        for (int i : Edges.outside(0, 4)) {
            Edges.refused("leaves(0, " + i + ")", made, x -> x.leaves(0, i), Edges.BAD);
        }
    }

    /** Terms 1: "MOOD is 0 ahead of the first; behind a TALE it is FUNNY by 2 (cut)." */
    static void mood() {
        Edges.due("mood 0 ahead of the first", Edges.in("p5000;t3").quarters(0, 0), 0);
        // With TICKLISH 5 and FUNNY 9 there are 45, so that 15 (a MOOD of 3) make one quarter more.
        int[] ahead = {0, 1, 2, 3, 4, 5, 6, 7, 8, 9};
        int[] due = {2, 2, 2, 2, 2, 2, 3, 3, 3, 3};
        // With TICKLISH 3 and FUNNY 5 there are 15, so that 5 (a MOOD of 1) make the first quarter.
        int[] first = {0, 0, 1, 1, 1, 1, 1, 1, 1, 1};
        // With TICKLISH 4 and FUNNY 5 there are 20, so that only 20 (a MOOD of 4) make the second.
        int[] second = {1, 1, 1, 1, 1, 1, 1, 1, 2, 2};
        for (int funny : ahead) {
            Edges.due("quarters behind " + funny, Edges.in("p5000;t" + funny + ";t9").quarters(0, 1), due[funny]);
            Edges.due("quarters behind " + funny, Edges.in("p3000;t" + funny + ";t5").quarters(0, 1), first[funny]);
            Edges.due("quarters behind " + funny, Edges.in("p4000;t" + funny + ";t5").quarters(0, 1), second[funny]);
            Edges.due("of the tale just ahead only", Edges.in("p5000;t" + funny + ";t0;t9").quarters(0, 2), 2);
        }
    }

    /**
     * Terms 1: "One who is there laughs at a TALE with so many quarters: 0, if TICKLISH or FUNNY is 0;
     * else TICKLISH times FUNNY, and 5 times MOOD, both together, by 20 (cut), 4 at most;"
     */
    static void quartersCut() {
        int[][] cases = {
            {0, 9, 9, 0}, {9, 9, 0, 0}, {9, 8, 0, 0}, {0, 9, 0, 0}, {1, 9, 1, 1}, {1, 8, 1, 1}, {1, 7, 1, 0},
            {1, 4, 9, 0}, {2, 4, 5, 1}, {8, 6, 3, 1}, {5, 6, 5, 2}, {9, 2, 6, 2}, {5, 8, 8, 3}, {8, 6, 8, 3},
            {9, 0, 9, 4}, {9, 1, 9, 4}, {9, 9, 9, 4}, {9, 8, 9, 4}, {9, 0, 8, 3}, {1, 0, 9, 0}, {4, 0, 5, 1}};
        for (int[] c : cases) {
            String room = "p" + c[0] + "000;t" + c[1] + ";t" + c[2];
            Edges.due("quarters in " + room, Edges.in(room).quarters(0, 1), c[3]);
        }
    }

    /** Terms 1: "2 less (0 at least), if one HOLDS it then." */
    static void quartersHeld() {
        int[] funny = {0, 2, 3, 4, 6, 7, 8, 9};
        int[] free = {0, 0, 1, 1, 2, 3, 3, 4};
        int[] held = {0, 0, 0, 0, 0, 1, 1, 2};
        for (int k = 0; k < funny.length; k++) {
            LaughsLast x = Edges.in("p9000;t" + funny[k]);
            Edges.due("quarters at " + funny[k], x.quarters(0, 0), free[k]);
            x.holds(0, 14);
            Edges.due("quarters at " + funny[k] + ", held at others", x.quarters(0, 0), free[k]);
            x.holds(0, 1);
            Edges.due("quarters at " + funny[k] + ", held", x.quarters(0, 0), held[k]);
        }
        LaughsLast x = Edges.in("p9000;t9;t9;t9;t9");
        x.holds(0, 15);
        Edges.due("cut to 4 ahead of that", x.quarters(0, 1), 2);
        for (int i = 0; i < 4; i++) {
            x.holds(0, 1 << i);
            for (int tale = 0; tale < 4; tale++) {
                Edges.due("quarters at tale " + tale + ", held at " + i, x.quarters(0, tale), tale == i ? 2 : 4);
            }
        }
    }

    /** Promise 10: "Quarters with which one laughs at a TALE (0: one has LEFT)." */
    static void quartersOfWhoLeft() {
        for (int from = 0; from <= 4; from++) {
            LaughsLast x = Edges.in("p9000;p9000;t9;t9;t9;t9");
            x.leaves(0, from);
            for (int i = 0; i < 4; i++) {
                Edges.due("quarters at " + i + ", left ahead of " + from, x.quarters(0, i), i < from ? 4 : 0);
                Edges.due("quarters of the other", x.quarters(1, i), 4);
            }
        }
    }

    /** Promise 10: "BAD." */
    static void badQuarters() {
        Edges.Made made = () -> Edges.busy("p9219;p5134;p5555;t9;t4");
        for (int p : Edges.outside(0, 2)) {
            Edges.refused("quarters(" + p + ", 0)", made, x -> x.quarters(p, 0), Edges.BAD);
        }
        for (int i : Edges.outside(0, 1)) {
            Edges.refused("quarters(0, " + i + ")", made, x -> x.quarters(0, i), Edges.BAD);
        }
        Edges.refused("quarters without people", () -> Edges.busy("t9"), x -> x.quarters(0, 0), Edges.BAD);
        Edges.refused("quarters without tales", () -> Edges.busy("p9000"), x -> x.quarters(0, 0), Edges.BAD);
        String all = "p9000;p9000;p9000;p9000;t9;t9;t9;t9";
        Edges.refused("quarters of a fifth", () -> Edges.busy(all), x -> x.quarters(4, 0), Edges.BAD);
        Edges.refused("quarters at a fifth", () -> Edges.busy(all), x -> x.quarters(0, 4), Edges.BAD);
    }

    /** Terms 1: "All by themselves." */
    static void allByThemselves() {
        // Each of four laughs by a half: nobody, or several, by 12 of 16.
        String four = "p5000;p5000;p5000;p5000;t9;";
        owes("by themselves, nobody", Edges.in(four + "m0;o3"), 0, 1, 1, 16);
        owes("by themselves, nobody", Edges.in(four + "m0;o3"), 3, 1, 13, 16);
        owes("by themselves, least", Edges.in(four + "m1;o0"), 3, 1, 1, 16);
        owes("by themselves, least", Edges.in(four + "m1;o0"), 0, 1, 9, 16);
        owes("by themselves, alike", Edges.in(four + "m2;o0"), 1, 1, 15, 64);
        owes("by themselves, alike", Edges.in(four + "m2;o0"), 0, 1, 19, 64);
    }

    /** Terms 1: "By LAW: nobody laughs: all stays. One does: it is that one's." */
    static void nobodyOrOneLaughs() {
        for (int law = 0; law <= 2; law++) {
            for (int several = 0; several <= 2; several++) {
                String rules = "t9;l" + law + ";m" + several + ";o1";
                owes("nobody, " + rules, Edges.in(NEVER + NEVER + rules), 1, 1, 1, 1);
                owes("one, " + rules, Edges.in(SURE + NEVER + rules), 0, 1, 1, 1);
                owes("one who has it, " + rules, Edges.in(NEVER + SURE + rules), 1, 1, 1, 1);
                owes("nobody at a tale of 0, " + rules, Edges.in(SURE + NEVER + "t0;" + rules), 1, 1, 1, 1);
            }
        }
    }

    /** Terms 1: "SEVERAL do: NOBODY: all stays; LEAST: it is the least number's; ALIKE: each one's of them, with like chances." */
    static void severalLaugh() {
        String three = NEVER + SURE + SURE + SURE + "t9;";
        int[][] nobody = {{1, 1}, {0, 1}, {0, 1}, {0, 1}};
        int[][] least = {{0, 1}, {1, 1}, {0, 1}, {0, 1}};
        int[][] alike = {{0, 1}, {1, 3}, {1, 3}, {1, 3}};
        int[][][] due = {nobody, least, alike};
        for (int law = 0; law <= 2; law++) {
            for (int several = 0; several <= 2; several++) {
                for (int p = 0; p < 4; p++) {
                    String room = three + "o0;l" + law + ";m" + several;
                    owes(room, Edges.in(room), p, 1, due[several][p][0], due[several][p][1]);
                }
            }
        }
        for (int p = 0; p < 4; p++) {
            owes("two alike", Edges.in(SURE + NEVER + NEVER + SURE + "t9;o1;m2"), p, 1, p % 3 == 0 ? 1 : 0, p % 3 == 0 ? 2 : 1);
            owes("four alike", Edges.in(SURE + SURE + SURE + SURE + "t9;m2"), p, 1, 1, 4);
        }
    }

    /** Terms 1: "FIRST: once it was somebody's so (also of the one who had it), it stays so for the evening." */
    static void firstStays() {
        for (int had = 0; had < 2; had++) {
            LaughsLast x = Edges.in(SURE + SURE + "t9;t9;l1;m1;o" + had);
            x.leaves(0, 1);
            owes("it was 0's so, had by " + had, x, 0, 2, 1, 1);
            LaughsLast last = Edges.in(SURE + SURE + "t9;t9;l0;m1;o" + had);
            last.leaves(0, 1);
            owes("the last, had by " + had, last, 1, 2, 1, 1);
        }
        LaughsLast late = Edges.in(SURE + SURE + "t0;t9;l1;m1;o1");
        owes("it was not yet somebody's so", late, 0, 2, 1, 1);
        LaughsLast several = Edges.in(SURE + SURE + "t9;t9;l1;m0;o0");
        several.leaves(0, 1);
        owes("nor where several laughed and all stayed", several, 1, 2, 1, 1);
        LaughsLast alike = Edges.in(SURE + SURE + NEVER + "t9;t9;l1;m2;o2");
        alike.leaves(0, 1);
        owes("also by chances", alike, 0, 2, 1, 2);
        owes("also by chances", alike, 1, 2, 1, 2);
    }

    /** Terms 1: "HALVED: each time it goes to another one than had it, it is half as much." */
    static void halvedAtEachPassing() {
        for (int tales = 0; tales <= 4; tales++) {
            StringBuilder room = new StringBuilder("p9000;p9000;p9000;p9000;l2;m1;o3");
            for (int i = 0; i < tales; i++) {
                room.append(";t9");
            }
            LaughsLast x = Edges.in(room.toString());
            for (int p = 0; p < 3; p++) {
                x.leaves(p, p + 1);
            }
            int has = tales == 0 ? 3 : tales - 1;
            Edges.fraction("halved " + tales + " times", x.amount(has, 0), x.amount(has, 1), 1, 1L << tales);
            owes("halved, but owed", x, has, tales, 1, 1);
        }
        LaughsLast same = Edges.in(SURE + NEVER + "t9;t9;t9;t9;l2;o0");
        Edges.fraction("to the one who had it", same.amount(0, 0), same.amount(0, 1), 1, 1);
        LaughsLast once = Edges.in(SURE + NEVER + "t9;t9;t9;t9;l2;o1");
        Edges.fraction("once, and to the same one then", once.amount(0, 0), once.amount(0, 1), 1, 2);
        LaughsLast stays = Edges.in(SURE + SURE + "t9;t9;l2;m0;o1");
        Edges.fraction("where all stays", stays.amount(1, 0), stays.amount(1, 1), 1, 1);
    }

    /** Terms 1: "Who LEFT can't laugh, but keeps what one has." */
    static void whoLeftKeepsIt() {
        LaughsLast x = Edges.in(SURE + NEVER + "t9;t9;o0");
        x.leaves(0, 0);
        owes("left ahead of all, keeps it", x, 0, 2, 1, 1);
        LaughsLast y = Edges.in(SURE + SURE + "t9;t9;m2;o0");
        y.leaves(0, 0);
        owes("left, and loses it to who laughs", y, 1, 1, 1, 1);
        LaughsLast z = Edges.in(SURE + NEVER + "t9;t9;o1");
        z.leaves(0, 1);
        owes("left with it, keeps it", z, 0, 2, 1, 1);
        z.leaves(0, 0);
        owes("left without it, gets it no more", z, 1, 2, 1, 1);
    }

    /** Terms 1: "FRACTIONS are told in lowest terms, above and below (0 by 1)." */
    static void fractionsInLowestTerms() {
        LaughsLast x = Edges.in("p5006;p0009;t9;o1");
        owes("2 of 4", x, 0, 1, 1, 2);
        owes("none", x, 0, 0, 0, 1);
        owes("all", x, 1, 0, 1, 1);
        Edges.fraction("amount", x.amount(0, 0), x.amount(0, 1), 1, 2);
        Edges.fraction("a whole number", x.cost(0, 0), x.cost(0, 1), 3, 1);
        Edges.fraction("above 1", x.cost(1, 0), x.cost(1, 1), 9, 2);
        Edges.fraction("nothing", Edges.in("p0000").cost(0, 0), Edges.in("p0000").cost(0, 1), 0, 1);
        LaughsLast most = Edges.in("p4000;p0000;t5;t0;t5;t0;l0;o1");
        owes("3 by 4 times 3 by 4", most, 1, 4, 9, 16);
    }

    /**
     * Terms 2: "OWES: with what chance one of the PEOPLE has it behind so many TALES."
     * Promise 11: "OWES behind so many TALES (0 to all): above, below."
     */
    static void owesBehindNoneToAll() {
        for (int tales = 0; tales <= 4; tales++) {
            StringBuilder room = new StringBuilder(NEVER + "p5000;o0");
            for (int i = 0; i < tales; i++) {
                room.append(i % 2 == 0 ? ";t9" : ";t0");
            }
            int[] above = {1, 1, 1, 1, 1};
            int[] below = {1, 2, 2, 4, 4};
            for (int told = 0; told <= tales; told++) {
                owes("behind " + told + " of " + tales, Edges.in(room.toString()), 0, told, above[told], below[told]);
                owes("behind " + told + " of " + tales, Edges.in(room.toString()), 1, told, below[told] - 1, told == 0 ? 1 : below[told]);
            }
            int more = tales + 1;
            Edges.refused("behind more than " + tales, () -> Edges.busy(room.toString()), x -> x.owes(0, more, 0), Edges.BAD_LONG);
        }
    }

    /** Promise 11: "BAD. (As the least long and x more.)" Terms 3: "Where the answer is a long, a refusal -x is the least long and x more." */
    static void badOwes() {
        Edges.Made made = () -> Edges.busy("p9219;p5134;t9;t4");
        for (int p : Edges.outside(0, 1)) {
            Edges.refused("owes(" + p + ", 0, 0)", made, x -> x.owes(p, 0, 0), Edges.BAD_LONG);
        }
        for (int tales : Edges.outside(0, 2)) {
            Edges.refused("owes(0, " + tales + ", 0)", made, x -> x.owes(0, tales, 0), Edges.BAD_LONG);
        }
        for (int what : Edges.outside(0, 1)) {
            Edges.refused("owes(0, 0, " + what + ")", made, x -> x.owes(0, 0, what), Edges.BAD_LONG);
        }
        Edges.refused("owes without people", () -> Edges.busy("t9"), x -> x.owes(0, 0, 0), Edges.BAD_LONG);
        Edges.due("owes without tales", Edges.in("p9000").owes(0, 0, 0), 1);
    }

    /**
     * Terms 2: "AMOUNT: how much of it one has behind all, on the mean (1 is the whole; halves with HALVED)."
     * Promise 12: "AMOUNT: above, below. BAD. (As the least long and x more.)"
     */
    static void amounts() {
        LaughsLast none = Edges.in("p9999;p9999;o1");
        Edges.fraction("the whole, without tales", none.amount(1, 0), none.amount(1, 1), 1, 1);
        Edges.fraction("nothing, without tales", none.amount(0, 0), none.amount(0, 1), 0, 1);
        for (int law = 0; law <= 2; law++) {
            LaughsLast x = Edges.in("p5000;p0000;t9;o1;l" + law);
            Edges.fraction("on the mean, by law " + law, x.amount(0, 0), x.amount(0, 1), 1, law == 2 ? 4 : 2);
            Edges.fraction("what stays, by law " + law, x.amount(1, 0), x.amount(1, 1), 1, 2);
        }
        Edges.Made made = () -> Edges.busy("p9219;p5134;t9;t4");
        for (int p : Edges.outside(0, 1)) {
            Edges.refused("amount(" + p + ", 0)", made, x -> x.amount(p, 0), Edges.BAD_LONG);
        }
        for (int what : Edges.outside(0, 1)) {
            Edges.refused("amount(0, " + what + ")", made, x -> x.amount(0, what), Edges.BAD_LONG);
        }
        Edges.refused("amount without people", () -> Edges.busy("t9"), x -> x.amount(0, 0), Edges.BAD_LONG);
    }

    /**
     * Terms 2: "COST of one: WORTH times AMOUNT, HOLD for each TALE at which one HOLDS it and is still there,
     * LEAVE, if one LEAVES ahead of a TALE that there is."
     */
    static void costs() {
        LaughsLast x = Edges.in("p0987;t5;t5");
        cost("worth", x, 0, 4, 7);
        cost("holds at both", x, 3, 4, 25);
        cost("holds at one", x, 2, 4, 16);
        cost("holds at tales that there are not", x, 12, 4, 7);
        cost("leaves ahead of the first", x, 3, 0, 15);
        cost("leaves ahead of the last", x, 3, 1, 24);
        cost("holds only when one has left", x, 2, 1, 15);
        cost("leaves ahead of a tale that there is not", x, 3, 2, 25);
        cost("leaves ahead of a tale that there is not", x, 3, 3, 25);
        LaughsLast none = Edges.in("p0987");
        cost("without tales", none, 15, 4, 7);
        cost("without tales", none, 15, 0, 7);
        LaughsLast four = Edges.in("p0999;t5;t5;t5;t5");
        cost("holds at four", four, 15, 4, 45);
        cost("holds at three", four, 15, 3, 45);
        cost("leaves ahead of the fourth", four, 0, 3, 18);
        LaughsLast other = Edges.in("p0987;p0000;t5;o1");
        cost("has nothing", other, 1, 4, 9);
        cost("left with nothing", other, 1, 0, 8);
        LaughsLast away = Edges.in("p9999;p0999;t0");
        away.holds(1, 1);
        away.leaves(0, 0);
        cost("goes by nobody else's ways", away, 0, 4, 9);
    }

    /** Promise 13: "COST: above, below. BAD. (As the least long and x more.)" */
    static void badCost() {
        LaughsLast x = Edges.in("p5009;p0007;t9;o1");
        Edges.fraction("cost", x.cost(1, 0), x.cost(1, 1), 7, 2);
        Edges.Made made = () -> Edges.busy("p9219;p5134;t9;t4");
        for (int p : Edges.outside(0, 1)) {
            Edges.refused("cost(" + p + ", 0)", made, y -> y.cost(p, 0), Edges.BAD_LONG);
        }
        for (int what : Edges.outside(0, 1)) {
            Edges.refused("cost(0, " + what + ")", made, y -> y.cost(0, what), Edges.BAD_LONG);
        }
        Edges.refused("cost without people", () -> Edges.busy("t9"), y -> y.cost(0, 0), Edges.BAD_LONG);
    }

    private static void owes(String call, LaughsLast x, int p, int tales, long above, long below) {
        Edges.fraction(call + ": owes(" + p + ", " + tales + ")", x.owes(p, tales, 0), x.owes(p, tales, 1), above, below);
    }

    private static void cost(String call, LaughsLast x, int holds, int leaves, long due) {
        x.holds(0, holds);
        x.leaves(0, leaves);
        Edges.fraction(call, x.cost(0, 0), x.cost(0, 1), due, 1);
    }
}
