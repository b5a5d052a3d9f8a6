/** Refusals, across all calls: the end of Terms 3, and the constants. */
public final class RefusalEdgesTest {
    private static final String ROOM = "p9219;p5134;p1111;p7007;t9;t4";

    /** A call that is refused, its answer, and the FINDING (0: none). */
    private static final class Refused {
        final String call;
        final Edges.Call asking;
        final long answer;
        final int finding;

        Refused(String call, Edges.Call asking, long answer, int finding) {
            this.call = call;
            this.asking = asking;
            this.answer = answer;
            this.finding = finding;
        }
    }

    public static void main(String[] args) throws Exception {
        Edges.runAll(RefusalEdgesTest.class);
    }

    /** The public face: "public static final int NONE = -1, BAD = -2, NOT = -3, FULL = -4;" */
    static void constants() {
        Edges.due("NONE", LaughsLast.NONE, -1);
        Edges.due("BAD", LaughsLast.BAD, -2);
        Edges.due("NOT", LaughsLast.NOT, -3);
        Edges.due("FULL", LaughsLast.FULL, -4);
    }

    /** Of each call one or more, where it is the room of four that is asked. */
    private static Refused[] ofEachCall() {
        return new Refused[] {
            new Refused("type", x -> x.type(256), Edges.BAD, 0),
            new Refused("person", x -> x.person(4, 0), Edges.BAD, 0),
            new Refused("tale", x -> x.tale(2), Edges.BAD, 0),
            new Refused("law", x -> x.law(3), Edges.BAD, 0),
            new Refused("holds", x -> x.holds(0, 16), Edges.BAD, 0),
            new Refused("leaves", x -> x.leaves(0, 5), Edges.BAD, 0),
            new Refused("quarters", x -> x.quarters(0, 2), Edges.BAD, 0),
            new Refused("owes", x -> x.owes(0, 3, 0), Edges.BAD_LONG, 0),
            new Refused("amount", x -> x.amount(4, 0), Edges.BAD_LONG, 0),
            new Refused("cost", x -> x.cost(4, 0), Edges.BAD_LONG, 0),
            new Refused("best", x -> x.best(0, 4), Edges.BAD_LONG, 0),
            new Refused("rest", x -> x.rest(Edges.NONE, 1), Edges.BAD, 0),
            new Refused("order", x -> x.order(0, 2), Edges.BAD, 0),
            new Refused("among", x -> x.among(4), Edges.BAD, 0),
            new Refused("hire", x -> x.hire(0, 10, 0), Edges.BAD_LONG, 0),
            new Refused("hire of a fifth", x -> x.hire(0, 9, 0), Edges.FULL_LONG, 0),
            new Refused("other", x -> x.other(0, 3, 0, 0), Edges.BAD_LONG, 0),
            new Refused("lawFor", x -> x.lawFor(4), Edges.BAD, 0),
            new Refused("edge", x -> x.edge(4), Edges.BAD, 0),
            new Refused("weight", x -> x.weight(5, 0), Edges.BAD, 0),
            new Refused("early", x -> x.early(4, 0), Edges.BAD_LONG, 0),
            new Refused("two", x -> x.two(2), Edges.BAD_LONG, 0),
            new Refused("two of four", x -> x.two(0), Edges.NOT_LONG, 0),
            new Refused("evenings", x -> x.evenings(1, 201, 0), Edges.BAD, 0),
            new Refused("saw", x -> x.saw(0, 10, 0, 0, 0), Edges.BAD, 0),
            new Refused("read", x -> x.read(4, 0), Edges.BAD, 0),
            new Refused("read of a lost one", x -> x.read(3, 0), -11, Edges.NULL),
            new Refused("off", x -> x.off(0, 10), Edges.BAD, 0),
            new Refused("guess", x -> x.guess(4), Edges.BAD, 0),
            new Refused("guess of one not seen", x -> x.guess(2), Edges.NOT, 0),
            new Refused("laughs", x -> x.laughs(0, 10, 0), Edges.BAD, 0),
            new Refused("sheet", x -> x.sheet(0, 0, 61), Edges.BAD, 0),
            new Refused("sheet below 0", x -> x.sheet(0, 0, -1), -15, Edges.SIZE),
            new Refused("lose", x -> x.lose(4), Edges.BAD, 0),
            new Refused("lose of a lost one", x -> x.lose(3), -11, Edges.NULL),
            new Refused("lay", x -> x.lay(0, 3, 0, 1), Edges.BAD, 0),
            new Refused("lay of another form", x -> x.lay(0, 1, 0, 1), -13, Edges.CAST),
            new Refused("lay of no such item", x -> x.lay(0, 0, 3, 1), -12, Edges.INDEX),
            new Refused("get", x -> x.get(0, 3, 0), Edges.LEAST_INT, 0),
            new Refused("get of no such item", x -> x.get(0, 0, 3), Edges.LEAST_INT, Edges.INDEX),
            new Refused("copy", x -> x.copy(0, 0, 4, 0, 1), Edges.BAD, 0),
            new Refused("copy, unlike", x -> x.copy(0, 0, 1, 0, 1), -14, Edges.STORE),
            new Refused("copy of too many", x -> x.copy(0, 0, 0, 0, 4), -12, Edges.INDEX),
            new Refused("write", x -> x.write(4, 0), Edges.BAD, 0),
            new Refused("write to a lost one", x -> x.write(0, 3), -11, Edges.NULL),
            new Refused("count", x -> x.count(9), Edges.BAD, 0)};
    }

    /**
     * Terms 3: "Refusals, the first that fits, in the order told at each act: BAD -2 (a number not as told, no such thing), NULL,
     * NOT -3 (as told), FULL -4, other FINDINGS. They change nothing (FINDINGS but count() 8)."
     */
    static void oneBehindTheOther() {
        LaughsLast x = Edges.busy(ROOM);
        int finding = Edges.BUSY_FINDING;
        for (int time = 0; time < 2; time++) {
            for (Refused r : ofEachCall()) {
                finding = r.finding == 0 ? finding : r.finding;
                Edges.due(r.call, r.asking.on(x), r.answer);
                Edges.due(r.call + ": count(8)", x.count(8), finding);
            }
        }
        Edges.alike("all refusals together", x, Edges.busy(ROOM));
    }

    /** Terms 3: "They change nothing (FINDINGS but count() 8)." */
    static void eachBySelf() {
        for (Refused r : ofEachCall()) {
            int finding = r.finding == 0 ? Edges.BUSY_FINDING : r.finding;
            Edges.found(r.call, () -> Edges.busy(ROOM), r.asking, r.answer, finding);
        }
    }

    /** Terms 3: "Where the answer is a long, a refusal -x is the least long and x more." */
    static void whereTheAnswerIsALong() {
        LaughsLast x = Edges.in(ROOM);
        Edges.due("BAD", x.owes(4, 0, 0), -9223372036854775806L);
        Edges.due("NOT", x.early(0, 0), -9223372036854775805L);
        Edges.due("FULL", x.hire(0, 0, 0), -9223372036854775804L);
    }
}
