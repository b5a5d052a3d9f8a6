import java.math.BigInteger;
import java.util.Arrays;

/** Boundary cases of SHEETS, FINDINGS, count and digest: Terms 1 and 3, promises 32 to 39. */
public final class SheetEdgesTest {
    private static final String ROOM = "p9219;p5134;t9;t4";

    public static void main(String[] args) throws Exception {
        Edges.runAll(SheetEdgesTest.class);
    }

    private static LaughsLast made() {
        return Edges.busy(ROOM);
    }

    /** Where nothing was found yet, so that BAD may not tell a FINDING. */
    private static LaughsLast nothingFound() {
        LaughsLast x = Edges.in(ROOM);
        x.sheet(0, 0, 3);
        x.sheet(1, 1, 4);
        x.sheet(2, 2, 5);
        return x;
    }

    private static void bad(String call, Edges.Call asking, long answer) {
        Edges.refused(call, SheetEdgesTest::made, asking, answer);
        Edges.refused(call + ", nothing found yet", SheetEdgesTest::nothingFound, asking, answer);
    }

    /** A FINDING, behind another one and as the first. */
    private static void found(String call, Edges.Call asking, long answer, int finding) {
        Edges.found(call, SheetEdgesTest::made, asking, answer, finding);
        Edges.found(call + ", nothing found yet", SheetEdgesTest::nothingFound, asking, answer, finding);
    }

    /**
     * Terms 1: "SHEETS 0 .. 3 are LOST (at first) or a row of a FORM: 0 bytes, 1 shorts, 2 ints, of 0 to 60 items (0 at first)."
     * Promise 32: "A SHEET is a new row of a FORM with n items: n."
     */
    static void newRows() {
        for (int s = 0; s < 4; s++) {
            for (int form = 0; form < 3; form++) {
                for (int n : new int[] {0, 1, 59, 60}) {
                    newRow(s, form, n);
                }
            }
        }
    }

    private static void newRow(int s, int form, int n) {
        String call = "sheet(" + s + ", " + form + ", " + n + ")";
        LaughsLast x = new LaughsLast();
        Edges.due(call, x.sheet(s, form, n), n);
        for (int i = 0; i < n; i++) {
            Edges.due(call + ": item at first", x.get(s, form, i), 0);
            x.lay(s, form, i, i + 1);
        }
        Edges.due(call + ": no finding", x.count(8), 0);
        Edges.due(call + ": no such item", x.lay(s, form, n, 1), -12);
        for (int other = 0; other < 4; other++) {
            Edges.due(call + ": the others are lost", other == s ? -11 : x.lose(other), -11);
        }
        int later = (form + 1) % 3;
        Edges.due(call + " and anew", x.sheet(s, later, 60), 60);
        for (int i = 0; i < 60; i++) {
            Edges.due(call + " and anew: item", x.get(s, later, i), 0);
        }
        Edges.due(call + " and anew: of its form", x.lay(s, form, 0, 1), -13);
    }

    /** Terms 1: "of 0 to 60 items (0 at first)." */
    static void eachSheetHasItsItems() {
        LaughsLast x = new LaughsLast();
        for (int s = 0; s < 4; s++) {
            x.sheet(s, 2, 60);
            x.lay(s, 2, 0, 100 + s);
            x.lay(s, 2, 59, 200 + s);
        }
        for (int s = 0; s < 4; s++) {
            Edges.due("the first item of " + s, x.get(s, 2, 0), 100 + s);
            Edges.due("the second item of " + s, x.get(s, 2, 1), 0);
            Edges.due("the last item of " + s, x.get(s, 2, 59), 200 + s);
        }
        x.sheet(1, 2, 60);
        Edges.due("a new row changes no other, ahead", x.get(0, 2, 59), 200);
        Edges.due("a new row changes no other, behind", x.get(2, 2, 0), 102);
        Edges.due("a new row has no items of the old", x.get(1, 2, 59), 0);
        x.sheet(2, 2, 3);
        x.sheet(2, 2, 60);
        Edges.due("nor one that was shorter between", x.get(2, 2, 59), 0);
    }

    /** Promise 32: "BAD: SHEET, FORM, above 60; SIZE." Terms 1: "5 SIZE: below 0." */
    static void badSheet() {
        for (int s : Edges.outside(0, 3)) {
            bad("sheet(" + s + ", 0, 1)", x -> x.sheet(s, 0, 1), Edges.BAD);
            bad("sheet(" + s + ", 0, -1): BAD ahead of SIZE", x -> x.sheet(s, 0, -1), Edges.BAD);
        }
        for (int form : Edges.outside(0, 2)) {
            bad("sheet(0, " + form + ", 1)", x -> x.sheet(0, form, 1), Edges.BAD);
            bad("sheet(0, " + form + ", -1): BAD ahead of SIZE", x -> x.sheet(0, form, -1), Edges.BAD);
        }
        for (int n : new int[] {61, 62, 256, 65536, Integer.MAX_VALUE}) {
            bad("sheet(0, 0, " + n + ")", x -> x.sheet(0, 0, n), Edges.BAD);
            bad("sheet(3, 2, " + n + ")", x -> x.sheet(3, 2, n), Edges.BAD);
        }
        for (int n : new int[] {-1, -2, -60, Integer.MIN_VALUE}) {
            found("sheet(0, 0, " + n + ")", x -> x.sheet(0, 0, n), -15, Edges.SIZE);
            found("sheet(3, 2, " + n + ")", x -> x.sheet(3, 2, n), -15, Edges.SIZE);
        }
    }

    /** Promise 33: "It is LOST: how many items it had. BAD; NULL." Terms 1: "1 NULL: the SHEET is LOST;" */
    static void lost() {
        for (int s = 0; s < 4; s++) {
            for (int n : new int[] {0, 1, 60}) {
                LaughsLast x = new LaughsLast();
                x.sheet(s, 1, n);
                Edges.due("lose of " + n, x.lose(s), n);
                Edges.due("no finding", x.count(8), 0);
                Edges.due("lose again", x.lose(s), -11);
                Edges.due("a finding", x.count(8), Edges.NULL);
                x.sheet(s, 1, 60);
                Edges.due("its item anew", x.get(s, 1, 0), 0);
            }
        }
        LaughsLast x = made();
        x.lose(1);
        Edges.due("another stays", x.lose(0), 3);
        Edges.due("another stays", x.lose(2), 5);
        for (int s : Edges.outside(0, 3)) {
            bad("lose(" + s + ")", y -> y.lose(s), Edges.BAD);
        }
        found("lose(3)", y -> y.lose(3), -11, Edges.NULL);
    }

    /** Promise 34: "Item i, treated as of a FORM, becomes v (the lowest bits that it has, with its sign): 1." */
    static void theLowestBitsWithTheirSign() {
        int[] laid = {0, 1, -1, 127, 128, -128, -129, 255, 256, 384, 32767, 32768, -32768, -32769, 65535, 65536, 98304,
            Integer.MAX_VALUE, Integer.MIN_VALUE};
        int[] bytes = {0, 1, -1, 127, -128, -128, 127, -1, 0, -128, -1, 0, 0, -1, -1, 0, 0, -1, 0};
        int[] shorts = {0, 1, -1, 127, 128, -128, -129, 255, 256, 384, 32767, -32768, -32768, 32767, -1, 0, -32768, -1, 0};
        int[][] due = {bytes, shorts, laid};
        for (int form = 0; form < 3; form++) {
            LaughsLast x = new LaughsLast();
            x.sheet(3, form, laid.length);
            for (int k = 0; k < laid.length; k++) {
                Edges.due("lay of " + laid[k], x.lay(3, form, k, laid[k]), 1);
            }
            for (int k = 0; k < laid.length; k++) {
                Edges.due("item of form " + form + " by " + laid[k], x.get(3, form, k), due[form][k]);
            }
            Edges.due("no finding, also of the least int", x.count(8), 0);
        }
    }

    /** Promise 34: "BAD; NULL; CAST; INDEX." Terms 1: "2 INDEX: there is no such item; 3 CAST: it has another FORM;" */
    static void badLay() {
        for (int s : Edges.outside(0, 3)) {
            bad("lay(" + s + ", 0, 0, 1)", x -> x.lay(s, 0, 0, 1), Edges.BAD);
            bad("lay(" + s + ", 0, -1, 1): BAD ahead of INDEX", x -> x.lay(s, 0, -1, 1), Edges.BAD);
        }
        for (int form : Edges.outside(0, 2)) {
            bad("lay(0, " + form + ", 0, 1)", x -> x.lay(0, form, 0, 1), Edges.BAD);
            bad("lay(3, " + form + ", 0, 1): BAD ahead of NULL", x -> x.lay(3, form, 0, 1), Edges.BAD);
            bad("lay(0, " + form + ", 60, 1): BAD ahead of INDEX", x -> x.lay(0, form, 60, 1), Edges.BAD);
        }
        for (int form = 0; form < 3; form++) {
            int of = form;
            found("lay(3, " + form + ", 0, 1)", x -> x.lay(3, of, 0, 1), -11, Edges.NULL);
            found("lay(3, " + form + ", -1, 1): NULL ahead of INDEX", x -> x.lay(3, of, -1, 1), -11, Edges.NULL);
            for (int s = 0; s < 3; s++) {
                int at = s;
                if (s != form) {
                    found("lay(" + s + ", " + form + ", 0, 1)", x -> x.lay(at, of, 0, 1), -13, Edges.CAST);
                    found("lay(" + s + ", " + form + ", 9, 1): CAST ahead of INDEX", x -> x.lay(at, of, 9, 1), -13, Edges.CAST);
                    found("lay(" + s + ", " + form + ", -1, 1): CAST ahead of INDEX", x -> x.lay(at, of, -1, 1), -13, Edges.CAST);
                }
            }
            for (int i : Edges.outside(0, 2 + form)) {
                found("lay(" + form + ", " + form + ", " + i + ", 1)", x -> x.lay(of, of, i, 1), -12, Edges.INDEX);
            }
        }
        LaughsLast x = new LaughsLast();
        x.sheet(0, 0, 0);
        Edges.due("no item in an empty row", x.lay(0, 0, 0, 1), -12);
        x.sheet(0, 0, 60);
        Edges.due("the last of 60", x.lay(0, 0, 59, 1), 1);
        Edges.due("no 61st", x.lay(0, 0, 60, 1), -12);
    }

    /** Promise 35: "Item i of it. BAD: the least int; so are NULL, CAST, INDEX (count() 8 tells)." */
    static void badGet() {
        for (int s : Edges.outside(0, 3)) {
            bad("get(" + s + ", 0, 0)", x -> x.get(s, 0, 0), Edges.LEAST_INT);
            bad("get(" + s + ", 0, -1): BAD ahead of INDEX", x -> x.get(s, 0, -1), Edges.LEAST_INT);
        }
        for (int form : Edges.outside(0, 2)) {
            bad("get(0, " + form + ", 0)", x -> x.get(0, form, 0), Edges.LEAST_INT);
            bad("get(3, " + form + ", 0): BAD ahead of NULL", x -> x.get(3, form, 0), Edges.LEAST_INT);
        }
        for (int form = 0; form < 3; form++) {
            int of = form;
            int other = (form + 1) % 3;
            found("get(3, " + form + ", 0)", x -> x.get(3, of, 0), Edges.LEAST_INT, Edges.NULL);
            found("get(3, " + form + ", -1): NULL ahead of INDEX", x -> x.get(3, of, -1), Edges.LEAST_INT, Edges.NULL);
            found("get(" + other + ", " + form + ", 0)", x -> x.get(other, of, 0), Edges.LEAST_INT, Edges.CAST);
            found("get(" + other + ", " + form + ", 9): CAST ahead of INDEX", x -> x.get(other, of, 9), Edges.LEAST_INT, Edges.CAST);
            for (int i : Edges.outside(0, 2 + form)) {
                found("get(" + form + ", " + form + ", " + i + ")", x -> x.get(of, of, i), Edges.LEAST_INT, Edges.INDEX);
            }
            Edges.changesNothing("get(" + form + ", " + form + ", 0)", SheetEdgesTest::made, x -> x.get(of, of, 0));
        }
        LaughsLast x = new LaughsLast();
        x.sheet(0, 2, 1);
        x.lay(0, 2, 0, Edges.LEAST_INT);
        Edges.due("an item that is the least int", x.get(0, 2, 0), Edges.LEAST_INT);
        Edges.due("is no finding", x.count(8), 0);
    }

    /** Promise 36: "n items of SHEET s, from i on, come to SHEET t (perhaps s, as they were), from j on: 1." */
    static void copiedAsTheyWere() {
        for (int i = 0; i <= 6; i++) {
            for (int j = 0; j <= 6; j++) {
                for (int n = 0; n <= 6; n++) {
                    copied(0, i, 0, j, n);
                    copied(0, i, 1, j, n);
                }
            }
        }
        LaughsLast x = new LaughsLast();
        for (int s = 0; s < 4; s++) {
            x.sheet(s, s % 2, 60);
            x.lay(s, s % 2, 59, s + 7);
        }
        Edges.due("all 60", x.copy(3, 0, 1, 0, 60), 1);
        Edges.due("the last of them", x.get(1, 1, 59), 10);
        Edges.due("the last as the first", x.copy(2, 59, 0, 0, 1), 1);
        Edges.due("its item", x.get(0, 0, 0), 9);
        Edges.due("none of them, at their end", x.copy(0, 60, 2, 60, 0), 1);
        Edges.due("no finding", x.count(8), 0);
    }

    /** Sheets 0 and 1 of 6 shorts each. */
    private static void copied(int s, int i, int t, int j, int n) {
        String call = "copy(" + s + ", " + i + ", " + t + ", " + j + ", " + n + ")";
        LaughsLast x = new LaughsLast();
        int[][] items = new int[2][6];
        for (int at = 0; at < 12; at++) {
            if (at % 6 == 0) {
                x.sheet(at / 6, 1, 6);
            }
            items[at / 6][at % 6] = 300 * at - 900;
            x.lay(at / 6, 1, at % 6, items[at / 6][at % 6]);
        }
        boolean well = i + n <= 6 && j + n <= 6;
        int[] from = items[s].clone();
        for (int k = 0; well && k < n; k++) {
            items[t][j + k] = from[i + k];
        }
        Edges.due(call, x.copy(s, i, t, j, n), well ? 1 : -12);
        Edges.due(call + ": count(8)", x.count(8), well ? 0 : Edges.INDEX);
        for (int at = 0; at < 12; at++) {
            Edges.due(call + ": item " + at, x.get(at / 6, 1, at % 6), items[at / 6][at % 6]);
        }
    }

    /**
     * Promise 36: "BAD: the SHEETS; NULL: s, t; STORE; INDEX: below 0, not so many (with n 0, too, if i or j is above how many there are)."
     * Terms 1: "4 STORE: unlike FORMS;"
     */
    static void badCopy() {
        for (int k : Edges.outside(0, 3)) {
            bad("copy(" + k + ", 0, 0, 0, 1)", x -> x.copy(k, 0, 0, 0, 1), Edges.BAD);
            bad("copy(0, 0, " + k + ", 0, 1)", x -> x.copy(0, 0, k, 0, 1), Edges.BAD);
            bad("copy(3, 0, " + k + ", 0, 1): BAD ahead of NULL", x -> x.copy(3, 0, k, 0, 1), Edges.BAD);
            bad("copy(" + k + ", 0, 3, 0, 1): BAD ahead of NULL", x -> x.copy(k, 0, 3, 0, 1), Edges.BAD);
            bad("copy(0, -1, " + k + ", 0, 1): BAD ahead of INDEX", x -> x.copy(0, -1, k, 0, 1), Edges.BAD);
        }
        found("copy(3, 0, 0, 0, 1)", x -> x.copy(3, 0, 0, 0, 1), -11, Edges.NULL);
        found("copy(0, 0, 3, 0, 1)", x -> x.copy(0, 0, 3, 0, 1), -11, Edges.NULL);
        found("copy(3, 0, 3, 0, 0)", x -> x.copy(3, 0, 3, 0, 0), -11, Edges.NULL);
        found("copy(2, 0, 3, 0, 1): NULL ahead of STORE", x -> x.copy(2, 0, 3, 0, 1), -11, Edges.NULL);
        found("copy(3, 0, 2, 0, 1): NULL ahead of STORE", x -> x.copy(3, 0, 2, 0, 1), -11, Edges.NULL);
        found("copy(3, -1, 0, 0, 1): NULL ahead of INDEX", x -> x.copy(3, -1, 0, 0, 1), -11, Edges.NULL);
        for (int s = 0; s < 3; s++) {
            int from = s;
            int to = (s + 1) % 3;
            found("copy(" + s + ", 0, " + to + ", 0, 1)", x -> x.copy(from, 0, to, 0, 1), -14, Edges.STORE);
            found("copy of none, unlike", x -> x.copy(from, 0, to, 0, 0), -14, Edges.STORE);
            found("copy: STORE ahead of INDEX", x -> x.copy(from, 9, to, -1, -1), -14, Edges.STORE);
        }
    }

    /** Promise 36: "INDEX: below 0, not so many (with n 0, too, if i or j is above how many there are)." */
    static void noSuchItemsToCopy() {
        // Sheet 1 has 4 shorts.
        int[][] ill = {{-1, 0, 1}, {0, -1, 1}, {0, 0, -1}, {-1, -1, -1}, {5, 0, 0}, {0, 5, 0}, {-1, 0, 0}, {0, -1, 0},
            {0, 0, 5}, {1, 0, 4}, {0, 1, 4}, {4, 0, 1}, {0, 4, 1}, {3, 0, 2}, {5, 5, -1}, {4, 4, -1}, {2, 2, -2}};
        for (int[] of : ill) {
            found("copy(1, " + of[0] + ", 1, " + of[1] + ", " + of[2] + ")", x -> x.copy(1, of[0], 1, of[1], of[2]), -12, Edges.INDEX);
        }
        for (int far : new int[] {Integer.MAX_VALUE, Integer.MIN_VALUE, Integer.MAX_VALUE - 1, Integer.MIN_VALUE + 1}) {
            found("copy from " + far, x -> x.copy(1, far, 1, 0, 1), -12, Edges.INDEX);
            found("copy to " + far, x -> x.copy(1, 0, 1, far, 1), -12, Edges.INDEX);
            found("copy of " + far, x -> x.copy(1, 0, 1, 0, far), -12, Edges.INDEX);
            found("copy of " + far + " from 2", x -> x.copy(1, 2, 1, 2, far), -12, Edges.INDEX);
            found("copy of " + far + " from there", x -> x.copy(1, far, 1, far, far), -12, Edges.INDEX);
        }
        for (int end = 0; end <= 4; end++) {
            int at = end;
            Edges.changesNothing("copy of none at " + end, SheetEdgesTest::made, x -> x.copy(1, at, 1, 4 - at, 0));
            Edges.due("copy of none at " + end, made().copy(1, at, 1, 4 - at, 0), 1);
        }
    }

    /**
     * Promise 37: "Quarters of one of the PEOPLE at TALES 0 on come to a SHEET (of each the lowest bits that an item has, with its sign)
     * from item 0 on, as many as there are items and TALES: how many."
     */
    static void written() {
        for (int form = 0; form < 3; form++) {
            for (int tales = 0; tales <= 4; tales++) {
                for (int n : new int[] {0, 1, 2, 3, 4, 5, 60}) {
                    written(form, tales, n);
                }
            }
        }
    }

    private static void written(int form, int tales, int n) {
        String call = "write of " + tales + " to " + n + " of form " + form;
        StringBuilder room = new StringBuilder("p9000;p7000");
        for (int i = 0; i < tales; i++) {
            room.append(";t9");
        }
        LaughsLast x = Edges.in(room.toString());
        x.holds(1, 4);
        x.leaves(1, 3);
        x.sheet(2, form, n);
        for (int i = 0; i < n; i++) {
            x.lay(2, form, i, -5);
        }
        int[] quarters = {3, 4, 2, 0};
        int due = Math.min(tales, n);
        Edges.due(call, x.write(1, 2), due);
        for (int i = 0; i < n; i++) {
            Edges.due(call + ": item " + i, x.get(2, form, i), i < due ? quarters[i] : -5);
        }
        Edges.due(call + ": no finding", x.count(8), 0);
        Edges.due(call + ": items", x.lose(2), n);
    }

    /** Promise 37: "BAD; NULL." */
    static void badWrite() {
        for (int p : Edges.outside(0, 1)) {
            bad("write(" + p + ", 0)", x -> x.write(p, 0), Edges.BAD);
            bad("write(" + p + ", 3): BAD ahead of NULL", x -> x.write(p, 3), Edges.BAD);
        }
        for (int s : Edges.outside(0, 3)) {
            bad("write(0, " + s + ")", x -> x.write(0, s), Edges.BAD);
        }
        found("write(0, 3)", x -> x.write(0, 3), -11, Edges.NULL);
        Edges.refused("write without people", () -> Edges.busy("t9"), x -> x.write(0, 0), Edges.BAD);
        Edges.refused("write without people: BAD ahead of NULL", () -> Edges.busy("t9"), x -> x.write(0, 3), Edges.BAD);
        Edges.found("write without tales", () -> Edges.busy("p9000"), x -> x.write(0, 3), -11, Edges.NULL);
        Edges.changesNothing("write without tales", () -> Edges.busy("p9000"), x -> x.write(0, 0));
    }

    /** Terms 1: "FINDINGS (answers -10 less the number; they change nothing but count() 8):" Promise 38: "8 the number of the latest FINDING (0 before any)." */
    static void theLatestFinding() {
        LaughsLast x = nothingFound();
        Edges.due("before any", x.count(8), 0);
        int[] answers = new int[5];
        for (int k = 0; k < 12; k++) {
            answers[0] = x.lose(3);
            Edges.due("NULL is the latest", x.count(8), 1);
            answers[1] = x.lay(0, 0, 9, 1);
            Edges.due("INDEX is the latest", x.count(8), 2);
            answers[2] = x.lay(0, 1, 0, 1);
            Edges.due("CAST is the latest", x.count(8), 3);
            answers[3] = x.copy(0, 0, 1, 0, 1);
            Edges.due("STORE is the latest", x.count(8), 4);
            answers[4] = x.sheet(0, 0, -1);
            Edges.due("SIZE is the latest", x.count(8), 5);
            x.lay(0, 0, 0, 1);
            x.get(9, 0, 0);
            x.among(7);
            x.sheet(0, 0, 3);
            x.wipe();
            x.type(999);
            x.saw(9, 0, 0, 0, 0);
            Edges.due("what is well, or refused otherwise, leaves it", x.count(8), 5);
        }
        for (int k = 0; k < 5; k++) {
            Edges.due("answer of finding " + (k + 1), answers[k], -11 - k);
        }
    }

    /**
     * Promise 38: "0 PEOPLE, 1 TALES, 2 bytes of THE ROOM, 3 how FUNNY all TALES are together, 4 SEEN, 5 SEEN that laughed,
     * 6 WEIGHTS together, 7 WORTH of all PEOPLE together, 8 the number of the latest FINDING (0 before any)."
     */
    static void theLeastAndTheMostOfEachCount() {
        LaughsLast none = new LaughsLast();
        LaughsLast most = Edges.in("p9999;p9999;p9999;p9999;t9;t9;t9;t9;l2;m2;o3;l2;m2;o3;l2;m2");
        most.type('l');
        Edges.due("bytes, with a fault", most.count(2), 60);
        Edges.due("people, with a fault", most.count(0), 0);
        most.wipe();
        Edges.type(most, "p9999;p9999;p9999;p9999;t9;t9;t9;t9;l2;m2;o3;l2;m2;o3;l2;m2");
        for (int k = 0; k < 60; k++) {
            most.saw(k % 4, 9, 4, 1, 1);
        }
        for (int tales = 0; tales <= 4; tales++) {
            most.weight(tales, 9);
        }
        most.sheet(0, 0, -1);
        int[] due = {4, 4, 59, 36, 60, 60, 45, 36, 5};
        for (int what = 0; what <= 8; what++) {
            Edges.due("the least of count(" + what + ")", none.count(what), 0);
            Edges.due("the most of count(" + what + ")", most.count(what), due[what]);
        }
    }

    /** Promise 38: "BAD." */
    static void badCount() {
        for (int what : Edges.outside(0, 8)) {
            bad("count(" + what + ")", x -> x.count(what), Edges.BAD);
        }
        for (int what = 0; what <= 8; what++) {
            int of = what;
            Edges.changesNothing("count(" + what + ")", SheetEdgesTest::made, x -> x.count(of));
        }
    }

    /**
     * Promise 39: "h is 17; h becomes 31 h and each of (of each thing all that is told of it, then of the next one): count() 0 to 7; fault();
     * law() 0 to 2; of each of the PEOPLE quarters() of all TALES, owes() behind all, amount(), cost(), above and below each, best() 2, 3,
     * rest() 0, 1, order() of all places, among(), lawFor(), edge(), early(), above, below, evenings(7, 9), guess(); rest(NONE, 0), two(),
     * above, below; all as they are told; as longs that wrap."
     */
    static void digests() {
        long[] empty = {0, 0, 0, 0, 0, 0, 0, 0, -1, 0, 0, 0, 1, Edges.NOT_LONG, Edges.NOT_LONG};
        Edges.due("digest of an empty room", new LaughsLast().digest(), mixed(empty));
        long[] ill = {0, 0, 3, 0, 0, 0, 0, 0, 2, 0, 0, 0, 1, Edges.NOT_LONG, Edges.NOT_LONG};
        Edges.due("digest with a fault", Edges.in("t5x").digest(), mixed(ill));
        long[] tales = {0, 4, 14, 22, 0, 0, 0, 0, -1, 0, 2, 0, 1, Edges.NOT_LONG, Edges.NOT_LONG};
        Edges.due("digest without people", Edges.in("t9;t4;m2;t0;t9").digest(), mixed(tales));
        long[] one = {1, 0, 5, 0, 0, 0, 0, 7, -1, 0, 0, 0, 1, 1, 1, 1, 7, 1, 0, 4, 0, 4, Edges.NOT, 0, Edges.NOT,
            Edges.NOT_LONG, Edges.NOT_LONG, 9, Edges.NOT, 1, Edges.NOT_LONG, Edges.NOT_LONG};
        Edges.due("digest of one, without others, tales, weights, seen", Edges.in("p9997").digest(), mixed(one));
        String[] rooms = {"p9219;t9", "p9219;p5134;t9;o1;l1", "p9219;p5134;p7012;t9;t4;t6;l2;m2;o2",
            "p7226;p5013;p8216;p7125;t6;t6;t4;t3;l1;m1", "p9227;p5118;t9;l1;m0", "p9999;p0000"};
        for (String room : rooms) {
            Edges.due("digest of " + room, Edges.in(room).digest(), byCalls(Edges.in(room)));
            Edges.due("digest of busy " + room, Edges.busy(room).digest(), byCalls(Edges.busy(room)));
            Edges.changesNothing("digest of " + room, () -> Edges.busy(room), x -> x.digest());
        }
        LaughsLast x = Edges.busy(ROOM);
        long was = x.digest();
        x.lose(3);
        Edges.due("findings are not in it", x.digest(), was);
        x.lay(0, 0, 0, 99);
        Edges.due("nor are items", x.digest(), was);
    }

    private static long byCalls(LaughsLast x) {
        long[] told = new long[200];
        int at = 0;
        for (int what = 0; what <= 7; what++) {
            told[at++] = x.count(what);
        }
        told[at++] = x.fault();
        for (int what = 0; what <= 2; what++) {
            told[at++] = x.law(what);
        }
        for (int p = 0; p < x.count(0); p++) {
            at = ofOne(x, p, told, at);
        }
        told[at++] = x.rest(Edges.NONE, 0);
        told[at++] = x.two(0);
        told[at++] = x.two(1);
        return mixed(Arrays.copyOf(told, at));
    }

    private static int ofOne(LaughsLast x, int p, long[] told, int begun) {
        int at = begun;
        int tales = x.count(1);
        for (int i = 0; i < tales; i++) {
            told[at++] = x.quarters(p, i);
        }
        for (int what = 0; what < 2; what++) {
            told[at + what] = x.owes(p, tales, what);
            told[at + 2 + what] = x.amount(p, what);
            told[at + 4 + what] = x.cost(p, what);
            told[at + 6 + what] = x.best(p, 2 + what);
            told[at + 8 + what] = x.rest(p, what);
        }
        at += 10;
        for (int place = 0; place < tales; place++) {
            told[at++] = x.order(p, place);
        }
        told[at++] = x.among(p);
        told[at++] = x.lawFor(p);
        told[at++] = x.edge(p);
        told[at++] = x.early(p, 0);
        told[at++] = x.early(p, 1);
        told[at++] = x.evenings(7, 9, p);
        told[at++] = x.guess(p);
        return at;
    }

    /** Without wrapping, cut to a long at the end. */
    private static long mixed(long[] told) {
        BigInteger h = BigInteger.valueOf(17);
        for (long one : told) {
            h = h.multiply(BigInteger.valueOf(31)).add(BigInteger.valueOf(one));
        }
        return h.longValue();
    }
}
