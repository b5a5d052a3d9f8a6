/**
 * At least one test for each promise of the document, by its number: ordinary
 * inputs, the edges that the document names, and refusals in their order.
 */
public final class PromisesTest {
    private static final int BAD = -2, NOT = -3, FULL = -4;
    private static final long LEAST = Long.MIN_VALUE, NO = LEAST + 2, NOT_YET = LEAST + 3, FULL_UP = LEAST + 4;
    private static final int LEAST_INT = Integer.MIN_VALUE;
    private static int wrong = 0;
    private static int checks = 0;

    public static void main(String[] args) {
        newObject();
        typeAndWipe();
        faults();
        peopleTalesLaw();
        waysAndQuarters();
        owesByLaw();
        amountAndCost();
        best();
        rest();
        order();
        among();
        hire();
        otherLaws();
        edge();
        strokes();
        two();
        seeds();
        seenDirectly();
        seenBySheet();
        sheets();
        sheetItems();
        copies();
        writes();
        counts();
        digest();
        System.out.println(checks + " checks, " + wrong + " wrong");
        if (wrong != 0) {
            System.exit(1);
        }
    }

    private static void due(String call, long got, long want) {
        checks++;
        if (got != want) {
            wrong++;
            System.out.println(call + " answered " + got + ", due is " + want);
        }
    }

    private static LaughsLast in(String room) {
        LaughsLast x = new LaughsLast();
        typeAll(x, room);
        return x;
    }

    private static void typeAll(LaughsLast x, String room) {
        for (int k = 0; k < room.length(); k++) {
            x.type(room.charAt(k));
        }
    }

    private static void fraction(String call, long above, long below, long wantAbove, long wantBelow) {
        due(call + " above", above, wantAbove);
        due(call + " below", below, wantBelow);
    }

    private static void newObject() {
        LaughsLast x = new LaughsLast();
        for (int what = 0; what <= 8; what++) {
            due("1: count", x.count(what), 0);
        }
        due("1: fault", x.fault(), -1);
        for (int s = 0; s < 4; s++) {
            due("1: lose", x.lose(s), -11);
        }
        for (int p = 0; p < 4; p++) {
            due("1: holds", x.holds(p, 0), 0);
            due("1: leaves", x.leaves(p, 4), 4);
            due("1: guess", x.guess(p), NOT);
        }
        for (int k = 0; k <= 4; k++) {
            due("1: weight", x.weight(k, 0), 0);
        }
        for (int what = 0; what <= 2; what++) {
            due("1: law", x.law(what), 0);
        }
    }

    private static void typeAndWipe() {
        LaughsLast x = new LaughsLast();
        due("2: below", x.type(-1), BAD);
        due("2: above", x.type(256), BAD);
        due("2: least", x.type(0), 1);
        due("2: most", x.type(255), 2);
        due("2: fault of odd bytes", x.fault(), 0);
        for (int k = 3; k <= 60; k++) {
            due("2: type", x.type('t'), k);
        }
        due("2: full", x.type('t'), FULL);
        due("2: bad ahead of full", x.type(999), BAD);
        due("2: stays at 60", x.count(2), 60);
        due("3: wipe", x.wipe(), 60);
        due("3: wipe of an empty one", x.wipe(), 0);
        due("3: count", x.count(2), 0);
        due("3: no fault", x.fault(), -1);
        LaughsLast y = in("p1111;t5;l2;m2");
        y.holds(0, 3);
        y.leaves(0, 1);
        due("3: wipe", y.wipe(), 14);
        due("3: no people", y.count(0), 0);
        due("3: no tales", y.count(1), 0);
        due("3: no law", y.law(0) + y.law(1), 0);
        due("3: ways stay", y.holds(0, 0), 3);
        due("3: ways stay", y.leaves(0, 0), 1);
    }

    private static void faults() {
        String[] well = {"", "p0000", "t0", "l2", "m2", "o3", "t9;t9;t9;t9", "o3;l1;p9999", "l0;l1;l2;l0",
            "p1111;p1111;p1111;p1111;t1;t2;t3;t4;l2;m2;o3"};
        for (String room : well) {
            due("4: fault of " + room, in(room).fault(), -1);
        }
        String[] ill = {"x", "p", "p1", "p123", "p12a4", "p1234t", "p1234;", "t", "tx", "t12", "t1;;t1", ";", "l3", "m3", "o4",
            "l:", "l/", "t:", "t/", "p123:", "P1234", "t5;p11110", "t1;t1;t1;t1;t1", "t1;t1;t1;t1;t", "p1111;p1111;p1111;p1111;p", "t1;x"};
        int[] at = {0, 1, 2, 4, 3, 5, 6, 1, 1, 2, 3, 0, 1, 1, 1,
            1, 1, 1, 1, 4, 0, 8, 12, 12, 24, 3};
        for (int k = 0; k < ill.length; k++) {
            LaughsLast x = in(ill[k]);
            due("4: fault of " + ill[k], x.fault(), at[k]);
            due("4: people with a fault", x.count(0), 0);
            due("4: tales with a fault", x.count(1), 0);
            due("4: person with a fault", x.person(0, 0), BAD);
            due("4: tale with a fault", x.tale(0), BAD);
            due("4: worth with a fault", x.count(7) + x.count(3), 0);
        }
        LaughsLast x = in("p1111;p1111;l2;m1;o1;");
        due("4: law with a fault", x.law(0), 0);
        due("4: several with a fault", x.law(1), 0);
        due("4: owes with a fault", x.law(2), 0);
        typeAll(x, "t5");
        due("4: mended", x.fault(), -1);
        due("4: law mended", x.law(0), 2);
        due("4: several mended", x.law(1), 1);
        due("4: owes mended", x.law(2), 1);
        StringBuilder sixty = new StringBuilder();
        for (int k = 0; k < 20; k++) {
            sixty.append("l1;");
        }
        due("4: sixty bytes", in(sixty.toString()).fault(), 60);
    }

    private static void peopleTalesLaw() {
        LaughsLast x = in("p1234;t7;p5678;t0;l2;m1;o1");
        for (int what = 0; what < 4; what++) {
            due("5: person 0", x.person(0, what), 1 + what);
            due("5: person 1", x.person(1, what), 5 + what);
        }
        due("5: p above", x.person(2, 0), BAD);
        due("5: p below", x.person(-1, 0), BAD);
        due("5: what above", x.person(0, 4), BAD);
        due("5: what below", x.person(0, -1), BAD);
        due("6: tale", x.tale(0), 7);
        due("6: tale", x.tale(1), 0);
        due("6: above", x.tale(2), BAD);
        due("6: below", x.tale(-1), BAD);
        due("7: law", x.law(0), 2);
        due("7: several", x.law(1), 1);
        due("7: owes", x.law(2), 1);
        due("7: above", x.law(3), BAD);
        due("7: below", x.law(-1), BAD);
        LaughsLast y = in("o1;p1111;p1111;p1111;o2;l2;l1;m1;m2");
        due("7: the last law", y.law(0), 1);
        due("7: the last several", y.law(1), 2);
        due("7: the last owes", y.law(2), 2);
        due("7: no such one", in("p1111;p1111;o2").law(2), 0);
        due("7: there is that one", in("o1;p1111;p1111").law(2), 1);
        due("7: without people", in("o1").law(2), 0);
    }

    private static void waysAndQuarters() {
        LaughsLast x = new LaughsLast();
        due("8: holds", x.holds(3, 15), 0);
        due("8: was", x.holds(3, 6), 15);
        due("8: above", x.holds(3, 16), BAD);
        due("8: below", x.holds(3, -1), BAD);
        due("8: p above", x.holds(4, 0), BAD);
        due("8: p below", x.holds(-1, 0), BAD);
        due("8: kept", x.holds(3, 0), 6);
        due("9: leaves", x.leaves(3, 0), 4);
        due("9: was", x.leaves(3, 3), 0);
        due("9: above", x.leaves(3, 5), BAD);
        due("9: below", x.leaves(3, -1), BAD);
        due("9: p above", x.leaves(4, 0), BAD);
        due("9: p below", x.leaves(-1, 0), BAD);
        due("9: kept", x.leaves(3, 4), 3);
        LaughsLast y = in("p9111;p0111;p5111;p2111;t9;t9;t0;t4");
        int[][] quarters = {{4, 4, 0, 1}, {0, 0, 0, 0}, {2, 3, 0, 1}, {0, 1, 0, 0}};
        for (int p = 0; p < 4; p++) {
            for (int i = 0; i < 4; i++) {
                due("10: quarters " + p + " " + i, y.quarters(p, i), quarters[p][i]);
            }
        }
        y.holds(0, 10);
        due("10: not held", y.quarters(0, 0), 4);
        due("10: held, by 2 less than 4", y.quarters(0, 1), 2);
        due("10: held, 0 at least", y.quarters(0, 3), 0);
        y.leaves(0, 1);
        due("10: ahead of it", y.quarters(0, 0), 4);
        due("10: left", y.quarters(0, 1), 0);
        due("10: mood stays when one left", y.quarters(2, 1), 3);
        due("10: p above", y.quarters(4, 0), BAD);
        due("10: p below", y.quarters(-1, 0), BAD);
        due("10: i above", y.quarters(0, 4), BAD);
        due("10: i below", y.quarters(0, -1), BAD);
        due("10: no person", in("t5").quarters(0, 0), BAD);
        due("10: no tale", in("p5555").quarters(0, 0), BAD);
        due("10: mood is cut", in("p3111;t7;t2").quarters(0, 1), 1);
        due("10: mood is cut", in("p2111;t7;t2").quarters(0, 1), 0);
    }

    private static void owesByLaw() {
        String two = "p9111;p5111;t9;";
        fractionOwes("11: nobody", in(two + "m0"), 0, 1, 1, 1);
        fractionOwes("11: least", in(two + "m1;o1"), 0, 1, 1, 1);
        fractionOwes("11: alike", in(two + "m2;o1"), 0, 1, 3, 4);
        fractionOwes("11: alike", in(two + "m2;o1"), 1, 1, 1, 4);
        fractionOwes("11: nobody, o", in(two + "m0;o1"), 1, 1, 1, 2);
        fractionOwes("11: ahead", in(two + "m0;o1"), 1, 0, 1, 1);
        fractionOwes("11: ahead", in(two + "m0;o1"), 0, 0, 0, 1);
        String laws = "p5111;p5111;t9;t9;m1;o1;";
        fractionOwes("11: last", in(laws + "l0"), 0, 2, 25, 32);
        fractionOwes("11: last", in(laws + "l0"), 1, 2, 7, 32);
        fractionOwes("11: first", in(laws + "l1"), 0, 2, 11, 16);
        fractionOwes("11: first, also of the one who had it", in(laws + "l1"), 1, 2, 5, 16);
        fractionOwes("11: halved as the last", in(laws + "l2"), 0, 2, 25, 32);
        fractionOwes("11: three alike", in("p9111;p9111;p9111;t9;m2"), 2, 1, 1, 3);
        fractionOwes("11: four alike", in("p9111;p9111;p9111;p9111;t9;m2"), 3, 1, 1, 4);
        LaughsLast x = in("p9111;p9111;t9;t9;m1;o0");
        x.leaves(0, 1);
        fractionOwes("11: who left keeps it", x, 0, 1, 1, 1);
        fractionOwes("11: who left can't laugh", x, 1, 2, 1, 1);
        due("11: p above", x.owes(2, 0, 0), NO);
        due("11: p below", x.owes(-1, 0, 0), NO);
        due("11: tales above", x.owes(0, 3, 0), NO);
        due("11: tales below", x.owes(0, -1, 0), NO);
        due("11: what above", x.owes(0, 0, 2), NO);
        due("11: what below", x.owes(0, 0, -1), NO);
    }

    private static void fractionOwes(String call, LaughsLast x, int p, int tales, long above, long below) {
        fraction(call, x.owes(p, tales, 0), x.owes(p, tales, 1), above, below);
    }

    private static void amountAndCost() {
        LaughsLast x = in("p5234;p5111;t9;m2;l2;o1");
        fraction("12: halved", x.amount(0, 0), x.amount(0, 1), 3, 16);
        fraction("12: halved, kept", x.amount(1, 0), x.amount(1, 1), 5, 8);
        LaughsLast y = in("p5234;p5111;t9;m2;l0;o1");
        fraction("12: whole", y.amount(0, 0), y.amount(0, 1), 3, 8);
        fraction("12: whole", y.amount(1, 0), y.amount(1, 1), 5, 8);
        LaughsLast back = in("p9111;p9111;t9;t9;m1;l2;o1");
        fraction("12: once", back.amount(0, 0), back.amount(0, 1), 1, 2);
        back.leaves(0, 1);
        fraction("12: there and back", back.amount(1, 0), back.amount(1, 1), 1, 4);
        due("12: p above", x.amount(2, 0), NO);
        due("12: p below", x.amount(-1, 0), NO);
        due("12: what above", x.amount(0, 2), NO);
        due("12: what below", x.amount(0, -1), NO);
        fraction("13: worth", y.cost(0, 0), y.cost(0, 1), 3, 2);
        y.holds(0, 15);
        fraction("13: holds tales that there are", y.cost(0, 0), y.cost(0, 1), 2, 1);
        y.leaves(0, 1);
        fraction("13: no tale to leave ahead of", y.cost(0, 0), y.cost(0, 1), 2, 1);
        y.leaves(0, 0);
        fraction("13: leaves, and holds no more", y.cost(0, 0), y.cost(0, 1), 3, 1);
        due("13: p above", y.cost(2, 0), NO);
        due("13: p below", y.cost(-1, 0), NO);
        due("13: what above", y.cost(0, 2), NO);
        due("13: what below", y.cost(0, -1), NO);
    }

    private static void best() {
        LaughsLast x = in("p9119;p0000;t9;t9;o1");
        fraction("14: leave at once", x.best(0, 0), x.best(0, 1), 1, 1);
        due("14: holds", x.best(0, 2), 0);
        due("14: leaves", x.best(0, 3), 0);
        due("14: likes never", x.best(1, 3), 4);
        due("14: likes no holds", x.best(1, 2), 0);
        LaughsLast y = in("p5099;p0000;t9;t9;o1");
        due("14: holds both", y.best(0, 2), 3);
        due("14: stays", y.best(0, 3), 4);
        LaughsLast z = in("p9900;p0000;t9;t9;o1");
        due("14: later leaves of like ones", z.best(0, 3), 4);
        LaughsLast later = in("p9903;p0000;t9;t0;t9;o1");
        due("14: leaves at once, as holding it is dear", later.best(0, 3), 0);
        y.holds(0, 1);
        y.leaves(0, 2);
        y.best(0, 0);
        due("14: ways stay", y.holds(0, 0), 1);
        due("14: ways stay", y.leaves(0, 4), 2);
        due("14: p above", x.best(2, 0), NO);
        due("14: p below", x.best(-1, 0), NO);
        due("14: what above", x.best(0, 4), NO);
        due("14: what below", x.best(0, -1), NO);
    }

    private static void rest() {
        LaughsLast x = in("p9119;p0000;t9;t9;o1");
        x.holds(1, 15);
        due("15: rounds", x.rest(-1, 0), 2);
        due("15: holds", x.rest(0, 0), 0);
        due("15: leaves", x.rest(0, 1), 0);
        due("15: of like cost one changes nothing", x.rest(1, 0), 15);
        due("15: of like cost one changes nothing", x.rest(1, 1), 4);
        due("15: ways stay", x.leaves(0, 4), 4);
        LaughsLast never = in("p7127;p6112;p8001;t4;t5;l0;m1");
        due("15: does not come to rest", never.rest(-1, 0), -1);
        due("15: ways behind 20 rounds", never.rest(0, 0), 0);
        due("15: ways behind 20 rounds", never.rest(0, 1), 4);
        due("15: ways behind 20 rounds", never.rest(1, 0), 0);
        due("15: ways behind 20 rounds", never.rest(1, 1), 4);
        due("15: nobody", new LaughsLast().rest(-1, 0), 1);
        due("15: what of none", x.rest(-1, 1), BAD);
        due("15: what below", x.rest(-1, -1), BAD);
        due("15: p above", x.rest(2, 0), BAD);
        due("15: p below", x.rest(-2, 0), BAD);
        due("15: what above", x.rest(0, 2), BAD);
        due("15: what below", x.rest(0, -1), BAD);
    }

    private static void order() {
        LaughsLast x = in("p9111;p9111;t9;t0;m1;o1");
        due("16: like ones in the least row", x.order(0, 0), 0);
        due("16: like ones in the least row", x.order(0, 1), 1);
        LaughsLast y = in("p4111;p0111;t5;t4;o1");
        orderOfTwo("16: moods move with the order", y, 1, 0);
        y.holds(0, 1);
        orderOfTwo("16: holds by their places", y, 0, 1);
        y.holds(0, 2);
        orderOfTwo("16: holds by their places", y, 1, 0);
        y.holds(0, 0);
        y.leaves(0, 1);
        orderOfTwo("16: leaves by their places", y, 1, 0);
        y.leaves(0, 0);
        orderOfTwo("16: of like ones the least row", y, 0, 1);
        due("16: tales stay", y.tale(0), 5);
        due("16: p above", y.order(2, 0), BAD);
        due("16: p below", y.order(-1, 0), BAD);
        due("16: place above", y.order(0, 2), BAD);
        due("16: place below", y.order(0, -1), BAD);
    }

    private static void orderOfTwo(String call, LaughsLast x, int first, int second) {
        due(call, x.order(0, 0), first);
        due(call, x.order(0, 1), second);
    }

    private static void among() {
        due("17: all of like use", in("p9111;p0111;p0111;t9").among(0), 2);
        due("17: who takes it", in("p0111;p0111;p9111;t9").among(0), 4);
        due("17: all who may share it", in("p9111;p9111;p9111;p9111;t9;m2").among(1), 13);
        due("17: the owner is always among them", in("p9111;p0111;p9111;t9;o1").among(0), 6);
        due("17: bits by numbers", in("p9111;p0111;p9111;t9;o1").among(2), 3);
        due("17: two", in("p9111;p9111;t9").among(1), 1);
        due("17: no others", in("p9111;t9").among(0), NOT);
        due("17: bad ahead of not", in("p9111;t9").among(1), BAD);
        due("17: p below", in("p9111;t9").among(-1), BAD);
    }

    private static void hire() {
        LaughsLast x = in("p9114;t9;m2");
        fraction("18: half of it", x.hire(0, 9, 0), x.hire(0, 9, 1), 2, 1);
        fraction("18: no use", x.hire(0, 0, 0), x.hire(0, 0, 1), 0, 1);
        x.holds(1, 15);
        x.leaves(1, 0);
        fraction("18: the hired one goes by no ways", x.hire(0, 9, 0), x.hire(0, 9, 1), 2, 1);
        LaughsLast y = in("p9111;p9114;t9;m1;l1;o1");
        fraction("18: behind all", y.hire(1, 9, 0), y.hire(1, 9, 1), 0, 1);
        LaughsLast z = in("p0111;p9113;t9;m0;o0");
        fraction("18: it falls back", z.hire(0, 9, 0), z.hire(0, 9, 1), -1, 1);
        due("18: nobody is added", z.count(0), 2);
        LaughsLast three = in("p9111;p9111;p9111;t9;o3");
        fraction("18: three are well", three.hire(0, 5, 0), three.hire(0, 5, 1), 0, 1);
        LaughsLast four = in("p9111;p9111;p9111;p9111;t9");
        due("18: full", four.hire(0, 9, 0), FULL_UP);
        due("18: bad ahead of full", four.hire(0, 10, 0), NO);
        due("18: ticklish below", x.hire(0, -1, 0), NO);
        due("18: p above", x.hire(1, 9, 0), NO);
        due("18: p below", x.hire(-1, 9, 0), NO);
        due("18: what above", x.hire(0, 9, 2), NO);
        due("18: what below", x.hire(0, 9, -1), NO);
    }

    private static void otherLaws() {
        LaughsLast x = in("p5111;p5111;t9;t9;m1;o1;l0");
        fraction("19: last", x.other(0, 0, 1, 0), x.other(0, 0, 1, 1), 25, 32);
        fraction("19: first", x.other(0, 1, 1, 0), x.other(0, 1, 1, 1), 11, 16);
        fraction("19: halved", x.other(0, 2, 1, 0), x.other(0, 2, 1, 1), 25, 64);
        fraction("19: nobody", x.other(0, 0, 0, 0), x.other(0, 0, 0, 1), 11, 32);
        due("19: the law stays", x.law(0), 0);
        due("19: several stays", x.law(1), 1);
        due("19: law above", x.other(0, 3, 0, 0), NO);
        due("19: law below", x.other(0, -1, 0, 0), NO);
        due("19: several above", x.other(0, 0, 3, 0), NO);
        due("19: several below", x.other(0, 0, -1, 0), NO);
        due("19: p above", x.other(2, 0, 0, 0), NO);
        due("19: p below", x.other(-1, 0, 0, 0), NO);
        due("19: what above", x.other(0, 0, 0, 2), NO);
        due("19: what below", x.other(0, 0, 0, -1), NO);
        due("20: halved, nobody", x.lawFor(0), 6);
        due("20: halved, least", in("p9111;p9111;t9;o0").lawFor(1), 0);
        due("20: as it is given away", in("p9111;p9111;t9;o1").lawFor(1), 1);
        due("20: of like ones the first", in("p9111").lawFor(0), 0);
        due("20: p above", x.lawFor(2), BAD);
        due("20: p below", x.lawFor(-1), BAD);
    }

    private static void edge() {
        LaughsLast x = in("p5112;p0000;t0;t0;o1");
        due("21: from 2 quarters on it costs as much", x.edge(0), -1);
        due("21: less from there on", in("p5113;p0000;t0;t0;o1").edge(0), 8);
        due("21: by the mood ahead", in("p5113;p0000;t9;t0;o1").edge(0), 8);
        LaughsLast held = in("p0509;p0000;t5;o1");
        due("21: never", held.edge(0), -1);
        held.holds(0, 1);
        due("21: to spare holding it", held.edge(0), 0);
        LaughsLast gone = in("p9119;p0000;t1;t9;o1");
        int stays = gone.edge(0);
        gone.leaves(0, 0);
        due("21: being there till then", gone.edge(0), stays);
        due("21: being there till then", stays, 3);
        due("21: tales stay", gone.tale(1), 9);
        due("21: no tales", in("p5112").edge(0), NOT);
        due("21: bad ahead of not", in("p5112").edge(1), BAD);
        due("21: p below", x.edge(-1), BAD);
    }

    private static void strokes() {
        LaughsLast x = in("p5111;p0111;t9;t9;o1");
        due("23: no weights", x.early(0, 0), NOT_YET);
        due("23: no weights", x.early(0, 1), NOT_YET);
        due("23: bad ahead of not", x.early(2, 0), NO);
        due("22: weight", x.weight(1, 3), 0);
        due("22: was", x.weight(1, 9), 3);
        fraction("23: behind one", x.early(0, 0), x.early(0, 1), 1, 2);
        due("22: weight", x.weight(4, 9), 0);
        fraction("23: behind all, if there are fewer", x.early(0, 0), x.early(0, 1), 11, 16);
        x.weight(1, 0);
        fraction("23: behind all", x.early(0, 0), x.early(0, 1), 7, 8);
        x.weight(0, 3);
        fraction("23: behind none", x.early(0, 0), x.early(0, 1), 21, 32);
        due("22: together", x.count(6), 12);
        due("22: tales above", x.weight(5, 0), BAD);
        due("22: tales below", x.weight(-1, 0), BAD);
        due("22: v above", x.weight(0, 10), BAD);
        due("22: v below", x.weight(0, -1), BAD);
        due("23: p below", x.early(-1, 0), NO);
        due("23: what above", x.early(0, 2), NO);
        due("23: what below", x.early(0, -1), NO);
    }

    private static void two() {
        LaughsLast x = in("p5111;p3111;t9");
        fraction("24: two", x.two(0), x.two(1), 3, 4);
        LaughsLast swap = in("p9111;p9111;t9;m0");
        due("24: each keeps it", swap.two(0), NOT_YET);
        due("24: each keeps it", swap.two(1), NOT_YET);
        LaughsLast one = in("p5111;p0111;t9");
        fraction("24: it stays with the first", one.two(0), one.two(1), 1, 1);
        LaughsLast other = in("p0111;p5111;t9;o0");
        fraction("24: it stays with the other", other.two(0), other.two(1), 0, 1);
        due("24: one", in("p9111;t9").two(0), NOT_YET);
        due("24: three", in("p9111;p9111;p9111;t9").two(0), NOT_YET);
        due("24: bad ahead of not", in("p9111;t9").two(2), NO);
        due("24: what below", in("p9111;t9").two(-1), NO);
    }

    private static void seeds() {
        LaughsLast x = in("p5111;p5111;p5111;t9;t9;t9;m2;l0");
        int[] ends = new int[3];
        int seed = 5;
        for (int k = 0; k < 200; k++) {
            int owner = 0;
            for (int i = 0; i < 3; i++) {
                int[] who = new int[3];
                int laughed = 0;
                for (int p = 0; p < 3; p++) {
                    seed = 1103515245 * seed + 12345;
                    if ((seed >>> 16) % 4 < (i == 0 ? 2 : 3)) {
                        who[laughed++] = p;
                    }
                }
                if (laughed == 1) {
                    owner = who[0];
                } else if (laughed > 1) {
                    seed = 1103515245 * seed + 12345;
                    owner = who[(seed >>> 16) % laughed];
                }
            }
            if (k == 0) {
                due("25: made", x.made(5), owner);
            }
            ends[owner]++;
        }
        for (int p = 0; p < 3; p++) {
            due("26: evenings", x.evenings(5, 200, p), ends[p]);
        }
        due("25: nobody laughs", in("p0111;p0111;t9;o1").made(3), 1);
        due("25: no tales", in("p0111;p0111;o1").made(3), 1);
        due("25: no people", in("t9").made(1), NOT);
        due("26: one evening", x.evenings(5, 1, x.made(5)), 1);
        due("26: n below", x.evenings(5, 0, 0), BAD);
        due("26: n above", x.evenings(5, 201, 0), BAD);
        due("26: p above", x.evenings(5, 1, 3), BAD);
        due("26: p below", x.evenings(5, 1, -1), BAD);
    }

    private static void seenDirectly() {
        LaughsLast x = new LaughsLast();
        due("27: saw", x.saw(3, 9, 4, 1, 1), 1);
        due("27: p above", x.saw(4, 0, 0, 0, 0), BAD);
        due("27: p below", x.saw(-1, 0, 0, 0, 0), BAD);
        due("27: funny above", x.saw(0, 10, 0, 0, 0), BAD);
        due("27: funny below", x.saw(0, -1, 0, 0, 0), BAD);
        due("27: mood above", x.saw(0, 0, 5, 0, 0), BAD);
        due("27: mood below", x.saw(0, 0, -1, 0, 0), BAD);
        due("27: held above", x.saw(0, 0, 0, 2, 0), BAD);
        due("27: held below", x.saw(0, 0, 0, -1, 0), BAD);
        due("27: laughed above", x.saw(0, 0, 0, 0, 2), BAD);
        due("27: laughed below", x.saw(0, 0, 0, 0, -1), BAD);
        due("27: nothing came of it", x.count(4), 1);
        due("29: off, held", x.off(3, 9), 4);
        due("29: off, not ticklish", x.off(3, 0), 16);
        due("29: of another", x.off(0, 0), 0);
        due("29: p above", x.off(4, 0), BAD);
        due("29: p below", x.off(-1, 0), BAD);
        due("29: ticklish above", x.off(0, 10), BAD);
        due("29: ticklish below", x.off(0, -1), BAD);
        due("30: of like ones the least", x.guess(3), 7);
        due("30: nothing seen", x.guess(2), NOT);
        due("30: p above", x.guess(4), BAD);
        due("30: p below", x.guess(-1), BAD);
        x.saw(3, 9, 0, 0, 0);
        x.saw(2, 9, 0, 0, 1);
        due("30: both", x.guess(3), 5);
        due("31: all", x.laughs(3, 9, 0), 2);
        due("31: laughed", x.laughs(3, 9, 1), 1);
        due("31: other tales", x.laughs(3, 8, 0), 0);
        due("31: p above", x.laughs(4, 0, 0), BAD);
        due("31: p below", x.laughs(-1, 0, 0), BAD);
        due("31: funny above", x.laughs(0, 10, 0), BAD);
        due("31: funny below", x.laughs(0, -1, 0), BAD);
        due("31: what above", x.laughs(0, 0, 2), BAD);
        due("31: what below", x.laughs(0, 0, -1), BAD);
        for (int k = 4; k <= 60; k++) {
            due("27: saw", x.saw(0, 0, 0, 0, 0), k);
        }
        due("27: full", x.saw(0, 0, 0, 0, 0), FULL);
        due("27: bad ahead of full", x.saw(0, 0, 0, 0, 2), BAD);
    }

    private static void seenBySheet() {
        LaughsLast x = new LaughsLast();
        x.sheet(1, 0, 60);
        due("28: read", x.read(1, 2), 20);
        due("28: of that one", x.laughs(2, 0, 0), 20);
        x.lay(1, 0, 3, 6);
        x.lay(1, 0, 4, 4);
        x.lay(1, 0, 5, 1);
        x.lay(1, 0, 7, 5);
        due("28: as long as each may be", x.read(1, 3), 2);
        due("28: not held", x.off(3, 9), 1);
        due("28: laughed", x.laughs(3, 6, 1), 1);
        x.lay(1, 0, 7, -1);
        due("28: mood below", x.read(1, 3), 2);
        x.lay(1, 0, 7, 0);
        x.lay(1, 0, 8, 2);
        due("28: laughed above", x.read(1, 3), 2);
        x.lay(1, 0, 8, 0);
        x.lay(1, 0, 6, 10);
        due("28: funny above", x.read(1, 3), 2);
        x.lay(1, 0, 6, 0);
        due("28: count", x.count(4), 28);
        due("28: all again", x.read(1, 0), 20);
        due("28: room for some", x.read(1, 0), 12);
        due("28: room for none", x.read(1, 0), 0);
        due("28: count", x.count(4), 60);
        LaughsLast y = new LaughsLast();
        y.sheet(0, 2, 8);
        due("28: as many as are whole", y.read(0, 0), 2);
        y.sheet(0, 2, 2);
        due("28: none whole", y.read(0, 0), 0);
        due("28: lost", y.read(1, 0), -11);
        due("28: bad ahead of null", y.read(1, 4), BAD);
        due("28: p below", y.read(0, -1), BAD);
        due("28: s above", y.read(4, 0), BAD);
        due("28: s below", y.read(-1, 0), BAD);
    }

    private static void sheets() {
        LaughsLast x = new LaughsLast();
        due("32: sheet", x.sheet(0, 0, 60), 60);
        due("32: none", x.sheet(1, 2, 0), 0);
        due("32: above 60", x.sheet(0, 0, 61), BAD);
        due("32: s above", x.sheet(4, 0, 1), BAD);
        due("32: s below", x.sheet(-1, 0, 1), BAD);
        due("32: form above", x.sheet(0, 3, 1), BAD);
        due("32: form below", x.sheet(0, -1, 1), BAD);
        due("32: bad ahead of size", x.sheet(0, 3, -1), BAD);
        due("32: no finding yet", x.count(8), 0);
        due("32: size", x.sheet(0, 0, -1), -15);
        due("32: finding", x.count(8), 5);
        due("32: stays as it was", x.lay(0, 0, 59, 1), 1);
        due("32: new again", x.sheet(0, 0, 60), 60);
        due("32: 0 at first", x.get(0, 0, 59), 0);
        due("33: lose", x.lose(0), 60);
        due("33: lost", x.lose(0), -11);
        due("33: finding", x.count(8), 1);
        due("33: an empty one", x.lose(1), 0);
        due("33: s above", x.lose(4), BAD);
        due("33: s below", x.lose(-1), BAD);
    }

    private static void sheetItems() {
        LaughsLast x = new LaughsLast();
        int[] laid = {200, 40000, 70000, -129, 1 << 31};
        int[][] got = {{-56, 64, 112, 127, 0}, {200, -25536, 4464, -129, 0}, laid};
        for (int form = 0; form < 3; form++) {
            x.sheet(form, form, 5);
            for (int k = 0; k < 5; k++) {
                due("34: lay", x.lay(form, form, k, laid[k]), 1);
                due("35: get", x.get(form, form, k), got[form][k]);
            }
        }
        due("34: lost", x.lay(3, 0, 0, 0), -11);
        due("34: null ahead of the rest", x.lay(3, 1, 99, 0), -11);
        due("34: cast", x.lay(0, 1, 0, 0), -13);
        due("34: cast ahead of index", x.lay(0, 1, 5, 0), -13);
        due("34: index", x.lay(0, 0, 5, 0), -12);
        due("34: index below", x.lay(0, 0, -1, 0), -12);
        due("34: finding", x.count(8), 2);
        due("34: s above", x.lay(4, 0, 0, 0), BAD);
        due("34: s below", x.lay(-1, 0, 0, 0), BAD);
        due("34: form above", x.lay(0, 3, 0, 0), BAD);
        due("34: form below", x.lay(0, -1, 0, 0), BAD);
        due("34: bad leaves the finding", x.count(8), 2);
        int[][] asked = {{3, 0, 0, 1}, {3, 1, 9, 1}, {0, 2, 0, 3}, {0, 2, 5, 3}, {0, 0, 5, 2}, {0, 0, -1, 2}};
        for (int[] a : asked) {
            due("35: refused", x.get(a[0], a[1], a[2]), LEAST_INT);
            due("35: finding", x.count(8), a[3]);
        }
        x.get(3, 0, 0);
        due("35: s above", x.get(4, 0, 0), LEAST_INT);
        due("35: s below", x.get(-1, 0, 0), LEAST_INT);
        due("35: form above", x.get(0, 3, 0), LEAST_INT);
        due("35: form below", x.get(0, -1, 0), LEAST_INT);
        due("35: bad leaves the finding", x.count(8), 1);
    }

    private static LaughsLast rows() {
        LaughsLast x = new LaughsLast();
        for (int s = 0; s < 2; s++) {
            x.sheet(s, 1, 6 - s);
            for (int k = 0; k < 6 - s; k++) {
                x.lay(s, 1, k, 10 * s + k + 1);
            }
        }
        x.sheet(2, 2, 6);
        return x;
    }

    private static void row(String call, LaughsLast x, int s, int... want) {
        for (int k = 0; k < want.length; k++) {
            due(call + ", item " + k, x.get(s, 1, k), want[k]);
        }
    }

    private static void copies() {
        LaughsLast x = rows();
        due("36: copy", x.copy(0, 1, 1, 2, 3), 1);
        row("36: to another", x, 1, 11, 12, 2, 3, 4);
        due("36: forward", x.copy(0, 0, 0, 1, 5), 1);
        row("36: forward, as they were", x, 0, 1, 1, 2, 3, 4, 5);
        due("36: back", x.copy(0, 1, 0, 0, 5), 1);
        row("36: back, as they were", x, 0, 1, 2, 3, 4, 5, 5);
        due("36: none at the ends", x.copy(0, 6, 1, 5, 0), 1);
        due("36: none, i above", x.copy(0, 7, 1, 5, 0), -12);
        due("36: none, j above", x.copy(0, 6, 1, 6, 0), -12);
        due("36: i below", x.copy(0, -1, 1, 0, 1), -12);
        due("36: j below", x.copy(0, 0, 1, -1, 1), -12);
        due("36: n below", x.copy(0, 0, 1, 0, -1), -12);
        due("36: not so many", x.copy(0, 1, 1, 0, 6), -12);
        due("36: not so much room", x.copy(0, 0, 1, 1, 5), -12);
        due("36: no wrap", x.copy(0, 2, 1, 2, Integer.MAX_VALUE), -12);
        due("36: no wrap", x.copy(0, Integer.MAX_VALUE, 1, 0, 1), -12);
        due("36: finding", x.count(8), 2);
        due("36: store ahead of index", x.copy(0, 9, 2, 0, 1), -14);
        due("36: finding", x.count(8), 4);
        due("36: null of s ahead of store", x.copy(3, 0, 2, 0, 1), -11);
        due("36: null of t", x.copy(0, 0, 3, 0, 1), -11);
        due("36: s above", x.copy(4, 0, 0, 0, 0), BAD);
        due("36: s below", x.copy(-1, 0, 0, 0, 0), BAD);
        due("36: t above", x.copy(3, 0, 4, 0, 0), BAD);
        due("36: t below", x.copy(0, 0, -1, 0, 0), BAD);
        due("36: finding", x.count(8), 1);
        row("36: refusals change nothing", x, 1, 11, 12, 2, 3, 4);
    }

    private static void writes() {
        LaughsLast x = in("p9111;p5111;t9;t9;t5");
        x.sheet(0, 0, 2);
        x.sheet(1, 1, 5);
        due("37: as many as items", x.write(0, 0), 2);
        due("37: item", x.get(0, 0, 0), 4);
        x.lay(1, 1, 3, 7);
        due("37: as many as tales", x.write(1, 1), 3);
        row("37: write", x, 1, 2, 3, 2, 7, 0);
        x.leaves(1, 1);
        x.write(1, 1);
        row("37: left", x, 1, 2, 0, 0, 7, 0);
        due("37: null", x.write(0, 2), -11);
        due("37: bad ahead of null", x.write(2, 2), BAD);
        due("37: p below", x.write(-1, 0), BAD);
        due("37: s above", x.write(0, 4), BAD);
        due("37: s below", x.write(0, -1), BAD);
    }

    private static void counts() {
        LaughsLast x = in("p9117;p5111;t9;t8;t5");
        x.saw(0, 1, 1, 1, 1);
        x.saw(0, 1, 1, 1, 0);
        x.saw(0, 1, 1, 1, 1);
        x.weight(0, 4);
        x.weight(4, 5);
        x.get(0, 0, 0);
        int[] want = {2, 3, 20, 22, 3, 2, 9, 8, 1};
        for (int what = 0; what <= 8; what++) {
            due("38: count " + what, x.count(what), want[what]);
        }
        due("38: above", x.count(9), BAD);
        due("38: below", x.count(-1), BAD);
        typeAll(x, ";");
        due("38: bytes with a fault", x.count(2), 21);
    }

    private static void digest() {
        LaughsLast x = in("p9219;p5134;p7012;t9;t4;t6;l2;m2;o2");
        x.holds(0, 5);
        x.leaves(1, 2);
        x.weight(1, 3);
        x.saw(0, 6, 2, 0, 1);
        due("39: digest", x.digest(), digestByCalls(x));
        due("39: it changes nothing", x.digest(), digestByCalls(x));
        x.get(0, 0, 0);
        long before = x.digest();
        x.get(0, 0, 0);
        due("39: findings are not in it", x.digest(), before);
        LaughsLast empty = new LaughsLast();
        due("39: of an empty room", empty.digest(), digestByCalls(empty));
        LaughsLast ill = in("p1234;");
        due("39: with a fault", ill.digest(), digestByCalls(ill));
        LaughsLast two = in("p9219;p5134;t9;o1;l1");
        due("39: of two", two.digest(), digestByCalls(two));
    }

    private static long digestByCalls(LaughsLast x) {
        long h = 17;
        for (int what = 0; what <= 7; what++) {
            h = 31 * h + x.count(what);
        }
        h = 31 * h + x.fault();
        for (int what = 0; what <= 2; what++) {
            h = 31 * h + x.law(what);
        }
        for (int p = 0; p < x.count(0); p++) {
            for (int i = 0; i < x.count(1); i++) {
                h = 31 * h + x.quarters(p, i);
            }
            h = 31 * (31 * h + x.owes(p, x.count(1), 0)) + x.owes(p, x.count(1), 1);
            h = 31 * (31 * h + x.amount(p, 0)) + x.amount(p, 1);
            h = 31 * (31 * h + x.cost(p, 0)) + x.cost(p, 1);
            h = 31 * (31 * h + x.best(p, 2)) + x.best(p, 3);
            h = 31 * (31 * h + x.rest(p, 0)) + x.rest(p, 1);
            for (int i = 0; i < x.count(1); i++) {
                h = 31 * h + x.order(p, i);
            }
            h = 31 * h + x.among(p);
            h = 31 * h + x.lawFor(p);
            h = 31 * h + x.edge(p);
            h = 31 * (31 * h + x.early(p, 0)) + x.early(p, 1);
            h = 31 * h + x.evenings(7, 9, p);
            h = 31 * h + x.guess(p);
        }
        h = 31 * h + x.rest(-1, 0);
        return 31 * (31 * h + x.two(0)) + x.two(1);
    }
}
