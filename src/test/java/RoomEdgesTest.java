/** Boundary cases of THE ROOM: Terms 1, promises 1 to 7. */
public final class RoomEdgesTest {
    private static final String FOUR = "p1111;p2222;p3333;p4444";

    public static void main(String[] args) throws Exception {
        Edges.runAll(RoomEdgesTest.class);
    }

    /** Promise 1: "An empty ROOM; all SHEETS are LOST." */
    static void aNewObject() {
        LaughsLast x = new LaughsLast();
        Edges.due("count(8) of a new object", x.count(8), 0);
        for (int what = 0; what < 8; what++) {
            Edges.due("count(" + what + ") of a new object", x.count(what), 0);
        }
        Edges.due("fault of a new object", x.fault(), Edges.NONE);
        for (int s = 0; s < 4; s++) {
            Edges.due("lose of a new object's sheet " + s, x.lose(s), -11);
        }
        Edges.due("wipe of a new object", x.wipe(), 0);
    }

    /** What it is: "An object is used for at most 512 calls after it has been made; what later calls answer is free." */
    static void theLastCallThatIsPromised() {
        LaughsLast x = new LaughsLast();
        for (int call = 1; call <= 510; call++) {
            x.weight(call % 5, call % 10);
        }
        Edges.due("call 511", x.weight(0, 7), 0);
        Edges.due("call 512", x.weight(0, 0), 7);
    }

    /** Promise 2: "A byte (0 to 255) comes behind THE ROOM: how many." */
    static void eachByteIsTaken() {
        for (int b = 0; b <= 255; b++) {
            LaughsLast x = new LaughsLast();
            Edges.due("type(" + b + ")", x.type(b), 1);
            Edges.due("type(" + b + ") again", x.type(b), 2);
            Edges.due("bytes behind type(" + b + ")", x.count(2), 2);
        }
    }

    /** Promise 2: "BAD; FULL." */
    static void noByteOutside() {
        for (int b : Edges.outside(0, 255)) {
            Edges.refused("type(" + b + ")", () -> Edges.busy("p5129;t6"), x -> x.type(b), Edges.BAD);
            Edges.refused("type(" + b + ") in an empty room", () -> Edges.busy(""), x -> x.type(b), Edges.BAD);
        }
        for (int b : new int[] {255 + 't', 256 + 't', 't' - 256}) {
            Edges.refused("type(" + b + ")", () -> Edges.busy("p5129"), x -> x.type(b), Edges.BAD);
        }
    }

    /** Terms 1: "THE ROOM is a text of up to 60 bytes: parts with ; between them." */
    static void upToSixtyBytes() {
        LaughsLast x = new LaughsLast();
        for (int k = 1; k <= 60; k++) {
            Edges.due("byte " + k, x.type(k % 3 == 0 ? ';' : k % 3 == 1 ? 'l' : '2'), k);
            Edges.due("fault behind byte " + k, x.fault(), k % 3 == 2 ? Edges.NONE : k);
            Edges.due("law behind byte " + k, x.law(0), k % 3 == 2 ? 2 : 0);
        }
        Edges.due("a byte more", x.type('l'), Edges.FULL);
        Edges.due("bytes of a full room", x.count(2), 60);
        Edges.due("fault of a full room", x.fault(), 60);
    }

    /** Promise 2: "FULL." */
    static void aFullRoom() {
        String most = FOUR + ";t1;t2;t3;t4;l1;m1;o1;l2;m2;o2;l0;m0";
        LaughsLast x = Edges.in(most);
        Edges.due("bytes of a text that is well", x.count(2), 59);
        Edges.due("its fault", x.fault(), Edges.NONE);
        Edges.due("the last byte", x.type(';'), 60);
        Edges.due("then its fault", x.fault(), 60);
        Edges.refused("type in a full room", () -> Edges.busy(most + ";"), y -> y.type('l'), Edges.FULL);
        Edges.refused("type in a full room with a fault ahead of its end", () -> Edges.busy(most + "x"), y -> y.type(0), Edges.FULL);
        for (int b : Edges.outside(0, 255)) {
            Edges.refused("type(" + b + "): BAD ahead of FULL", () -> Edges.busy(most + ";"), y -> y.type(b), Edges.BAD);
        }
    }

    /** Promise 3: "THE ROOM is empty: how many bytes it had." */
    static void wiped() {
        String[] rooms = {"", "p", "p5129;t6", "x", FOUR + ";t1;t2;t3;t4;l1;m1;o1", "l1;l1;l1;l1;l1;l1;l1;l1;l1;l1;l1;l1;l1;l1;l1;l1;l1;l1;l1;l1;"};
        for (String room : rooms) {
            LaughsLast x = Edges.busy(room);
            Edges.due("wipe of " + room, x.wipe(), room.length());
            Edges.due("wipe again of " + room, x.wipe(), 0);
            Edges.due("count(8) behind wipe of " + room, x.count(8), Edges.BUSY_FINDING);
            Edges.alike("all but the room stays, wiped of " + room, x, Edges.busy(""));
            LaughsLast y = Edges.in(room);
            y.wipe();
            Edges.due("type behind wipe of " + room, y.type('t'), 1);
            Edges.type(y, "7");
            Edges.due("tales behind wipe of " + room, y.count(1), 1);
            Edges.due("people behind wipe of " + room, y.count(0), 0);
            Edges.due("law behind wipe of " + room, y.law(0), 0);
            Edges.due("several behind wipe of " + room, y.law(1), 0);
            Edges.due("who owes it behind wipe of " + room, y.law(2), 0);
        }
    }

    /** Promise 3: "THE ROOM is empty" */
    static void typedAgainBehindWipe() {
        String[] rooms = {"p9219;p5134;p7012;p8888;t9;t4;t6;t8;l2;m2;o3", "p9219;t9", "p9219;p5134;t0", "t5", "p1234", "l1", ""};
        for (String first : rooms) {
            for (String then : rooms) {
                LaughsLast x = Edges.busy(first);
                x.digest();
                x.wipe();
                Edges.type(x, then);
                Edges.alike(then + " behind " + first, x, Edges.busy(then));
            }
        }
    }

    /** Promise 4: "The FAULT; NONE." Terms 1: "an empty text is well" */
    static void anEmptyTextIsWell() {
        Edges.due("fault of an empty text", new LaughsLast().fault(), Edges.NONE);
        LaughsLast x = Edges.in("x");
        Edges.due("fault of x", x.fault(), 0);
        x.wipe();
        Edges.due("fault behind wipe", x.fault(), Edges.NONE);
        Edges.due("fault of a part", Edges.in("t5").fault(), Edges.NONE);
    }

    /**
     * Terms 1: "The FAULT is the place of the first byte with which it cannot go on
     * (an empty text is well; of one that is not ended, as behind a ;, its end)"
     */
    static void eachByteBehindEachBeginning() {
        String figures = "0123456789";
        goesOn("", "ptlmo", false);
        goesOn("p", figures, false);
        goesOn("p0", figures, false);
        goesOn("p90", figures, false);
        goesOn("p909", figures, true);
        goesOn("t", figures, true);
        goesOn("l", "012", true);
        goesOn("m", "012", true);
        goesOn("o", "0123", true);
        for (String part : new String[] {"p1234", "t5", "l2", "m2", "o3"}) {
            goesOn(part, ";", false);
            goesOn(part + ";", "ptlmo", false);
            goesOn(part + ";l", "012", true);
            goesOn(part + ";t", figures, true);
        }
        goesOn(FOUR, ";", false);
        goesOn("t1;t2;t3;t4", ";", false);
    }

    /** Terms 1: "or of the first byte of a fifth of the PEOPLE or TALES." */
    static void aFifthByItsFirstByte() {
        goesOn(FOUR + ";", "tlmo", false);
        goesOn("t1;t2;t3;t4;", "plmo", false);
        goesOn(FOUR + ";t1;t2;t3;t4;", "lmo", false);
        String[] ill = {FOUR + ";p", FOUR + ";p5", FOUR + ";p5555", FOUR + ";p5555;t1", FOUR + ";px",
            "t1;t2;t3;t4;t", "t1;t2;t3;t4;t5", "t1;t2;t3;t4;t5;l1", "t1;t2;t3;t4;tx", "t1;l1;t2;p1111;t3;t4;o1;t5",
            FOUR + ";t1;t2;t3;t4;t5;p5555", FOUR + ";t1;t2;t3;t4;p5555;t5", "p1;t1;t1;t1;t1;t1", "t1;t2;t3;t4;x;t5"};
        int[] at = {24, 24, 24, 24, 24, 12, 12, 12, 12, 24, 36, 36, 2, 12};
        for (int k = 0; k < ill.length; k++) {
            Edges.due("fault of " + ill[k], Edges.in(ill[k]).fault(), at[k]);
        }
    }

    /** Terms 1: "The FAULT is the place of the first byte with which it cannot go on" */
    static void theFirstFaultStays() {
        for (String begun : new String[] {"x", ";", "pa", "p12;", "t1;;", "t12", "l3", "m9", "o4", "p12345", "P", "t1; "}) {
            LaughsLast x = Edges.in(begun);
            Edges.due("fault of " + begun, x.fault(), begun.length() - 1);
            Edges.type(x, "t1;x;p1234;");
            Edges.due("fault of more behind " + begun, x.fault(), begun.length() - 1);
        }
    }

    /** Terms 1: "With a FAULT it is as if it was empty." */
    static void asIfEmptyWithAFault() {
        String well = "p9219;p5134;t9;t4;l2;m2;o1";
        for (String more : new String[] {";", "1", ";t", ";p123", ";x", ";p1111;p1111;p1111", ";t1;t2;t3"}) {
            LaughsLast x = Edges.busy(well + more);
            LaughsLast empty = Edges.busy("");
            Edges.due("bytes typed of " + more, x.count(2), (well + more).length());
            Edges.due("a fault of " + more, x.fault() < 0 ? 0 : 1, 1);
            for (int what : new int[] {0, 1, 3, 4, 5, 6, 7, 8}) {
                Edges.due("count(" + what + ") with a fault, " + more, x.count(what), empty.count(what));
            }
            for (int what = 0; what < 3; what++) {
                Edges.due("law(" + what + ") with a fault, " + more, x.law(what), 0);
            }
            nobodyIsThere(x, more);
            Edges.type(empty, well + more);
            empty.wipe();
            Edges.type(empty, well);
            Edges.alike("well again, " + more, empty, Edges.busy(well));
        }
    }

    private static void nobodyIsThere(LaughsLast x, String more) {
        Edges.due("person with a fault, " + more, x.person(0, 0), Edges.BAD);
        Edges.due("tale with a fault, " + more, x.tale(0), Edges.BAD);
        Edges.due("quarters with a fault, " + more, x.quarters(0, 0), Edges.BAD);
        Edges.due("owes with a fault, " + more, x.owes(0, 0, 0), Edges.BAD_LONG);
        Edges.due("amount with a fault, " + more, x.amount(0, 0), Edges.BAD_LONG);
        Edges.due("cost with a fault, " + more, x.cost(0, 0), Edges.BAD_LONG);
        Edges.due("best with a fault, " + more, x.best(0, 0), Edges.BAD_LONG);
        Edges.due("rest with a fault, " + more, x.rest(Edges.NONE, 0), 1);
        Edges.due("rest of one with a fault, " + more, x.rest(0, 0), Edges.BAD);
        Edges.due("order with a fault, " + more, x.order(0, 0), Edges.BAD);
        Edges.due("among with a fault, " + more, x.among(0), Edges.BAD);
        Edges.due("hire with a fault, " + more, x.hire(0, 1, 0), Edges.BAD_LONG);
        Edges.due("other with a fault, " + more, x.other(0, 0, 0, 0), Edges.BAD_LONG);
        Edges.due("lawFor with a fault, " + more, x.lawFor(0), Edges.BAD);
        Edges.due("edge with a fault, " + more, x.edge(0), Edges.BAD);
        Edges.due("early with a fault, " + more, x.early(0, 0), Edges.BAD_LONG);
        Edges.due("two with a fault, " + more, x.two(0), Edges.NOT_LONG);
        Edges.due("made with a fault, " + more, x.made(1), Edges.NOT);
        Edges.due("evenings with a fault, " + more, x.evenings(1, 1, 0), Edges.BAD);
        Edges.due("write with a fault, " + more, x.write(0, 0), Edges.BAD);
        Edges.due("guess with a fault, " + more, x.guess(3), 9);
        Edges.due("holds with a fault, " + more, x.holds(3, 14), 14);
    }

    /**
     * Terms 1: "p and four figures: one more of the PEOPLE (4 at most; 0 on): TICKLISH, HOLD, LEAVE, WORTH (0 to 9 each)."
     * Promise 5: "Of one of the PEOPLE: TICKLISH (0), HOLD (1), LEAVE (2), WORTH (3)."
     */
    static void peopleAndTheirFigures() {
        String[] figures = {"0000", "9999", "0123", "9876"};
        StringBuilder room = new StringBuilder();
        for (int n = 0; n <= 4; n++) {
            LaughsLast x = Edges.in(room.toString());
            Edges.due("people in " + room, x.count(0), n);
            for (int p = 0; p < 4; p++) {
                for (int what = 0; what < 4; what++) {
                    int due = p < n ? figures[p].charAt(what) - '0' : Edges.BAD;
                    Edges.due("person(" + p + ", " + what + ") in " + room, x.person(p, what), due);
                }
            }
            room.append(n == 0 ? "p" : ";p").append(figures[n % 4]);
        }
    }

    /** Promise 5: "BAD." */
    static void noSuchPerson() {
        Edges.Made made = () -> Edges.busy("p1234;p5678;p9012;t9");
        for (int p : Edges.outside(0, 2)) {
            Edges.refused("person(" + p + ", 0)", made, x -> x.person(p, 0), Edges.BAD);
        }
        for (int what : Edges.outside(0, 3)) {
            Edges.refused("person(0, " + what + ")", made, x -> x.person(0, what), Edges.BAD);
        }
        Edges.refused("person of four", () -> Edges.busy(FOUR), x -> x.person(4, 0), Edges.BAD);
        Edges.refused("person of none", () -> Edges.busy("t5"), x -> x.person(0, 0), Edges.BAD);
    }

    /**
     * Terms 1: "t and a figure: a TALE more (4 at most; 0 on): how FUNNY it is (0 to 9)." "TALES are told in order."
     * Promise 6: "How FUNNY a TALE is."
     */
    static void talesInOrder() {
        int[] funny = {0, 9, 1, 8};
        StringBuilder room = new StringBuilder("l0");
        for (int n = 0; n <= 4; n++) {
            LaughsLast x = Edges.in(room.toString());
            Edges.due("tales in " + room, x.count(1), n);
            for (int i = 0; i < 4; i++) {
                Edges.due("tale(" + i + ") in " + room, x.tale(i), i < n ? funny[i] : Edges.BAD);
            }
            room.append(";t").append(funny[n % 4]);
        }
    }

    /** Promise 6: "BAD." */
    static void noSuchTale() {
        for (int i : Edges.outside(0, 2)) {
            Edges.refused("tale(" + i + ")", () -> Edges.busy("p1234;t7;t8;t9"), x -> x.tale(i), Edges.BAD);
        }
        Edges.refused("tale of four", () -> Edges.busy("t1;t2;t3;t4"), x -> x.tale(4), Edges.BAD);
        Edges.refused("tale of none", () -> Edges.busy("p1234"), x -> x.tale(0), Edges.BAD);
    }

    /**
     * Terms 1: "l and a figure (0 to 2): the LAW (0 LAST, 1 FIRST, 2 HALVED; 0, if it is not told; the last one is so)."
     * "m and a figure (0 to 2): of SEVERAL (0 NOBODY, 1 LEAST, 2 ALIKE; likewise)."
     */
    static void theLastLawIsSo() {
        String signs = "lm";
        for (int which = 0; which < 2; which++) {
            char sign = signs.charAt(which);
            Edges.due("not told, " + sign, Edges.in("p1111;p1111").law(which), 0);
            for (int v = 0; v <= 2; v++) {
                Edges.due("told, " + sign + v, Edges.in("" + sign + v).law(which), v);
                Edges.due("of the other, " + sign + v, Edges.in("" + sign + v).law(1 - which), 0);
                for (int later = 0; later <= 2; later++) {
                    String room = "" + sign + v + ";t1;" + sign + later;
                    Edges.due("the last one of " + room, Edges.in(room).law(which), later);
                }
            }
        }
    }

    /**
     * Terms 1: "o and a figure (0 to 3): who OWES it at first (likewise; 0, if there is no such one)."
     * Promise 7: "who OWES it at first (2; 0 without PEOPLE)."
     */
    static void whoOwesItAtFirst() {
        String people = "";
        for (int n = 0; n <= 4; n++) {
            Edges.due("not told, of " + n, Edges.in(people + "l0").law(2), 0);
            for (int o = 0; o <= 3; o++) {
                int due = o < n ? o : 0;
                Edges.due("o" + o + " behind " + people, Edges.in(people + "o" + o).law(2), due);
                Edges.due("the last one, o" + o + " behind " + people, Edges.in(people + "o3;o0;o1;o" + o).law(2), due);
                Edges.due("o" + o + " ahead of " + people, Edges.in("o" + o + ";" + people + "l0").law(2), due);
            }
            people += "p1111;";
        }
        LaughsLast x = Edges.in("p1111;p1111;o2");
        Edges.due("no such one yet", x.law(2), 0);
        Edges.due("0 owes it, as there is no such one", x.owes(0, 0, 0), 1);
        Edges.type(x, ";p1111");
        Edges.due("then there is", x.law(2), 2);
        Edges.due("then that one owes it", x.owes(2, 0, 0), 1);
    }

    /** Promise 7: "LAW (what = 0), SEVERAL (1), who OWES it at first (2; 0 without PEOPLE). BAD." */
    static void noSuchLaw() {
        LaughsLast x = Edges.in("p1111;p1111;p1111;p1111;l1;m2;o3");
        Edges.due("law(0)", x.law(0), 1);
        Edges.due("law(1)", x.law(1), 2);
        Edges.due("law(2)", x.law(2), 3);
        for (int what : Edges.outside(0, 2)) {
            Edges.refused("law(" + what + ")", () -> Edges.busy("p1111;p1111;l1;m2;o1"), y -> y.law(what), Edges.BAD);
        }
    }

    /** Behind a well text, or one that is not ended, each byte: whether it can go on, and whether the text has ended then. */
    private static void goesOn(String begun, String signs, boolean ends) {
        for (int b = 0; b <= 255; b++) {
            LaughsLast x = Edges.in(begun);
            x.type(b);
            int due = signs.indexOf(b) < 0 ? begun.length() : ends ? Edges.NONE : begun.length() + 1;
            Edges.due("fault of byte " + b + " behind " + begun, x.fault(), due);
        }
    }
}
