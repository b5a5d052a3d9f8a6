/**
 * Whoever laughs last owes it: a debt that passes, in a room, to whoever of
 * those present laughs last before the stroke. The document says what each
 * call answers; the words in capitals are the document's.
 *
 * All rows are made in constructors and used again, so that no call makes an
 * object.
 */
public final class LaughsLast {
    public static final int NONE = -1, BAD = -2, NOT = -3, FULL = -4;

    /** PEOPLE, TALES and SHEETS are four at most. */
    private static final int MOST = 4;
    private static final int NEVER = 4;
    private static final int HIGHEST = 9;
    /** Bytes of THE ROOM, items of a SHEET, and all that may be SEEN. */
    private static final int LONGEST = 60;
    private static final int MOST_EVENINGS = 200;
    private static final int LEAST_INT = 1 << 31;
    private static final long LEAST_LONG = 1L << 63, GREATEST_LONG = ~LEAST_LONG;

    private static final int TICKLISH = 0, HOLD = 1, LEAVE = 2, WORTH = 3;
    private static final int FIRST = 1, HALVED = 2;
    private static final int NOBODY = 0, LEAST = 1, ALIKE = 2;
    private static final int NULL = 1, INDEX = 2, CAST = 3, STORE = 4, SIZE = 5;

    private final Room room;
    private final int[] holding;
    private final int[] leaving;
    private final int[] weights;
    private final Company company;
    private final Chances chances;
    private final Search search;
    private final Lots lots;
    private final Share share;
    private final Seen seen;
    private final Sheets sheets;

    public LaughsLast() {
        room = new Room();
        holding = new int[MOST];
        leaving = new int[] {NEVER, NEVER, NEVER, NEVER};
        weights = new int[MOST + 1];
        company = new Company(room, holding, leaving);
        chances = new Chances(company);
        search = new Search(company, chances);
        lots = new Lots();
        share = new Share();
        seen = new Seen();
        sheets = new Sheets();
    }

    // ---- the room

    public int type(int b) {
        if (!within(b, 255)) {
            return BAD;
        }
        return room.append(b) ? room.length : FULL;
    }

    public int wipe() {
        int had = room.length;
        room.empty();
        return had;
    }

    public int fault() {
        return room.faultAt;
    }

    public int person(int p, int what) {
        if (!isPerson(p) || !within(what, WORTH)) {
            return BAD;
        }
        return room.figures[MOST * p + what];
    }

    public int tale(int i) {
        return isTale(i) ? room.funny[i] : BAD;
    }

    public int law(int what) {
        return within(what, 2) ? room.rules[what] : BAD;
    }

    // ---- ways

    public int holds(int p, int tales) {
        if (!within(p, MOST - 1) || !within(tales, 15)) {
            return BAD;
        }
        int was = holding[p];
        holding[p] = tales;
        return was;
    }

    public int leaves(int p, int i) {
        if (!within(p, MOST - 1) || !within(i, NEVER)) {
            return BAD;
        }
        int was = leaving[p];
        leaving[p] = i;
        return was;
    }

    public int quarters(int p, int i) {
        if (!isPerson(p) || !isTale(i)) {
            return BAD;
        }
        company.gather();
        return company.quartersAt(p, i);
    }

    // ---- who owes

    public long owes(int p, int tales, int what) {
        if (!isPerson(p) || !within(tales, room.tales) || !isPart(what)) {
            return asLong(BAD);
        }
        company.gather();
        chances.play();
        return shareOwed(p, tales).part(what);
    }

    public long amount(int p, int what) {
        if (!isPerson(p) || !isPart(what)) {
            return asLong(BAD);
        }
        company.gather();
        chances.play();
        return shareOfDebt(p).part(what);
    }

    public long cost(int p, int what) {
        if (!isPerson(p) || !isPart(what)) {
            return asLong(BAD);
        }
        company.gather();
        chances.play();
        return shareOfCost(chances.costOf(p)).part(what);
    }

    public long best(int p, int what) {
        if (!isPerson(p) || !within(what, 3)) {
            return asLong(BAD);
        }
        search.findBest(p);
        if (what == 2) {
            return search.bestHolds;
        }
        if (what == 3) {
            return search.bestLeaves;
        }
        return shareOfCost(search.bestCost).part(what);
    }

    public int rest(int p, int what) {
        boolean ofRounds = p == NONE && what == 0;
        if (!ofRounds && !(isPerson(p) && isPart(what))) {
            return BAD;
        }
        search.settle();
        return restTold(p, what);
    }

    // ---- orders, company

    public int order(int p, int place) {
        if (!isPerson(p) || !isTale(place)) {
            return BAD;
        }
        search.findOrder(p);
        return search.bestRow[place];
    }

    public int among(int p) {
        if (!isPerson(p)) {
            return BAD;
        }
        return search.bestCompany(p);
    }

    public long hire(int p, int ticklish, int what) {
        if (!isPerson(p) || !within(ticklish, HIGHEST) || !isPart(what)) {
            return asLong(BAD);
        }
        if (room.people >= MOST) {
            return asLong(FULL);
        }
        company.gather();
        chances.play();
        long without = chances.costOf(p);
        company.seatOneMore(ticklish);
        chances.play();
        return shareOfCost(without - chances.costOf(p)).part(what);
    }

    public long other(int p, int law, int several, int what) {
        if (!isPerson(p) || !within(law, HALVED) || !within(several, ALIKE) || !isPart(what)) {
            return asLong(BAD);
        }
        company.gather();
        company.law = law;
        company.several = several;
        chances.play();
        return shareOfDebt(p).part(what);
    }

    public int lawFor(int p) {
        if (!isPerson(p)) {
            return BAD;
        }
        return search.bestLaw(p);
    }

    public int edge(int p) {
        if (!isPerson(p)) {
            return BAD;
        }
        return search.leastFunnyToLeave(p);
    }

    // ---- strokes, long runs, seeds

    public int weight(int tales, int v) {
        if (!within(tales, MOST) || !within(v, HIGHEST)) {
            return BAD;
        }
        int was = weights[tales];
        weights[tales] = v;
        return was;
    }

    public long early(int p, int what) {
        if (!isPerson(p) || !isPart(what)) {
            return asLong(BAD);
        }
        int total = totalWeight();
        if (total == 0) {
            return asLong(NOT);
        }
        company.gather();
        chances.play();
        long above = 0;
        for (int told = 0; told <= MOST; told++) {
            above += weights[told] * chances.owedInParts(p, Math.min(told, room.tales));
        }
        return share.put(above, total * chances.owedWhole()).part(what);
    }

    public long two(int what) {
        if (!isPart(what)) {
            return asLong(BAD);
        }
        if (room.people != 2) {
            return asLong(NOT);
        }
        company.gather();
        long gone = chances.owedFrom(0, 1);
        long back = chances.owedFrom(1, 0);
        if (gone + back == 0) {
            return asLong(NOT);
        }
        return share.put(back, gone + back).part(what);
    }

    public int made(int seed) {
        if (room.people == 0) {
            return NOT;
        }
        company.gather();
        lots.seed = seed;
        return lots.endOfEvening(company);
    }

    public int evenings(int seed, int n, int p) {
        if (!isPerson(p) || n < 1 || n > MOST_EVENINGS) {
            return BAD;
        }
        company.gather();
        lots.seed = seed;
        int ended = 0;
        for (int evening = 0; evening < n; evening++) {
            if (lots.endOfEvening(company) == p) {
                ended++;
            }
        }
        return ended;
    }

    // ---- what was seen

    public int saw(int p, int funny, int mood, int held, int laughed) {
        if (!within(p, MOST - 1) || !mayBeSeen(funny, mood, laughed) || !within(held, 1)) {
            return BAD;
        }
        return seen.add(p, funny, mood, held, laughed) ? seen.size : FULL;
    }

    public int read(int s, int p) {
        if (!isSheet(s) || !within(p, MOST - 1)) {
            return BAD;
        }
        if (sheets.isLost(s)) {
            return sheets.find(NULL);
        }
        int came = 0;
        for (int at = 0; at + 3 <= sheets.sizes[s]; at += 3) {
            int funny = sheets.item(s, at);
            int mood = sheets.item(s, at + 1);
            int laughed = sheets.item(s, at + 2);
            if (!mayBeSeen(funny, mood, laughed) || !seen.add(p, funny, mood, 0, laughed)) {
                return came;
            }
            came++;
        }
        return came;
    }

    public int off(int p, int ticklish) {
        if (!within(p, MOST - 1) || !within(ticklish, HIGHEST)) {
            return BAD;
        }
        return seen.offBy(p, ticklish);
    }

    public int guess(int p) {
        if (!within(p, MOST - 1)) {
            return BAD;
        }
        return seen.likeliest(p);
    }

    public int laughs(int p, int funny, int what) {
        if (!within(p, MOST - 1) || !within(funny, HIGHEST) || !isPart(what)) {
            return BAD;
        }
        return seen.howMany(p, funny, what == 1);
    }

    // ---- sheets

    public int sheet(int s, int form, int n) {
        if (!isSheet(s) || !isForm(form) || n > LONGEST) {
            return BAD;
        }
        if (n < 0) {
            return sheets.find(SIZE);
        }
        sheets.renew(s, form, n);
        return n;
    }

    public int lose(int s) {
        if (!isSheet(s)) {
            return BAD;
        }
        if (sheets.isLost(s)) {
            return sheets.find(NULL);
        }
        return sheets.drop(s);
    }

    public int lay(int s, int form, int i, int v) {
        if (!isSheet(s) || !isForm(form)) {
            return BAD;
        }
        int found = sheets.lookUp(s, form, i);
        if (found != 0) {
            return sheets.find(found);
        }
        sheets.put(s, i, v);
        return 1;
    }

    public int get(int s, int form, int i) {
        if (!isSheet(s) || !isForm(form)) {
            return LEAST_INT;
        }
        int found = sheets.lookUp(s, form, i);
        if (found != 0) {
            sheets.find(found);
            return LEAST_INT;
        }
        return sheets.item(s, i);
    }

    public int copy(int s, int i, int t, int j, int n) {
        if (!isSheet(s) || !isSheet(t)) {
            return BAD;
        }
        if (sheets.isLost(s) || sheets.isLost(t)) {
            return sheets.find(NULL);
        }
        if (sheets.forms[s] != sheets.forms[t]) {
            return sheets.find(STORE);
        }
        if (!sheets.hasItems(s, i, n) || !sheets.hasItems(t, j, n)) {
            return sheets.find(INDEX);
        }
        sheets.move(s, i, t, j, n);
        return 1;
    }

    public int write(int p, int s) {
        if (!isPerson(p) || !isSheet(s)) {
            return BAD;
        }
        if (sheets.isLost(s)) {
            return sheets.find(NULL);
        }
        company.gather();
        int written = Math.min(sheets.sizes[s], room.tales);
        for (int i = 0; i < written; i++) {
            sheets.put(s, i, company.quartersAt(p, i));
        }
        return written;
    }

    public int count(int what) {
        switch (what) {
            case 0: return room.people;
            case 1: return room.tales;
            case 2: return room.length;
            case 3: return room.funnyTogether();
            case 4: return seen.size;
            case 5: return seen.laughedTogether();
            case 6: return totalWeight();
            case 7: return room.worthTogether();
            case 8: return sheets.finding;
            default: return BAD;
        }
    }

    public long digest() {
        long h = 17;
        for (int what = 0; what <= 7; what++) {
            h = 31 * h + count(what);
        }
        h = 31 * h + fault();
        for (int what = 0; what <= 2; what++) {
            h = 31 * h + law(what);
        }
        search.settle();
        for (int p = 0; p < room.people; p++) {
            h = digestOfWhoOwes(p, h);
            h = digestOfSearches(p, h);
            h = digestOfStrokes(p, h);
        }
        h = 31 * h + restTold(NONE, 0);
        h = 31 * h + two(0);
        return 31 * h + two(1);
    }

    private long digestOfWhoOwes(int p, long begun) {
        long h = begun;
        company.gather();
        for (int i = 0; i < room.tales; i++) {
            h = 31 * h + company.quartersAt(p, i);
        }
        chances.play();
        h = shareOwed(p, room.tales).mixedInto(h);
        h = shareOfDebt(p).mixedInto(h);
        return shareOfCost(chances.costOf(p)).mixedInto(h);
    }

    private long digestOfSearches(int p, long begun) {
        search.findBest(p);
        long h = 31 * begun + search.bestHolds;
        h = 31 * h + search.bestLeaves;
        h = 31 * h + restTold(p, 0);
        h = 31 * h + restTold(p, 1);
        search.findOrder(p);
        for (int place = 0; place < room.tales; place++) {
            h = 31 * h + search.bestRow[place];
        }
        h = 31 * h + search.bestCompany(p);
        h = 31 * h + search.bestLaw(p);
        return 31 * h + search.leastFunnyToLeave(p);
    }

    private long digestOfStrokes(int p, long begun) {
        long h = 31 * begun + early(p, 0);
        h = 31 * h + early(p, 1);
        h = 31 * h + evenings(7, 9, p);
        return 31 * h + guess(p);
    }

    // ---- what several calls share

    private static boolean within(int number, int highest) {
        return number >= 0 && number <= highest;
    }

    private boolean isPerson(int p) {
        return within(p, room.people - 1);
    }

    private boolean isTale(int i) {
        return within(i, room.tales - 1);
    }

    private static boolean isPart(int what) {
        return within(what, 1);
    }

    private static boolean isSheet(int s) {
        return within(s, MOST - 1);
    }

    private static boolean isForm(int form) {
        return within(form, 2);
    }

    private static boolean mayBeSeen(int funny, int mood, int laughed) {
        return within(funny, HIGHEST) && within(mood, HIGHEST / 2) && within(laughed, 1);
    }

    private static long asLong(int refusal) {
        return LEAST_LONG - refusal;
    }

    private static boolean hasBit(int bits, int place) {
        return (bits >> place & 1) == 1;
    }

    private static int quartersOf(int ticklish, int funny, int mood, boolean held) {
        if (ticklish == 0 || funny == 0) {
            return 0;
        }
        int uncut = (ticklish * funny + 5 * mood) / 20;
        int quarters = uncut < MOST ? uncut : MOST;
        if (!held) {
            return quarters;
        }
        return quarters > 2 ? quarters - 2 : 0;
    }

    private Share shareOwed(int p, int tales) {
        return share.put(chances.owedInParts(p, tales), chances.owedWhole());
    }

    private Share shareOfDebt(int p) {
        return share.put(chances.amounts[p], chances.costWhole());
    }

    private Share shareOfCost(long cost) {
        return share.put(cost, chances.costWhole());
    }

    private int restTold(int p, int what) {
        if (p == NONE) {
            return search.rounds;
        }
        return what == 0 ? search.restHolds[p] : search.restLeaves[p];
    }

    private int totalWeight() {
        int total = 0;
        for (int weight : weights) {
            total += weight;
        }
        return total;
    }

    /** THE ROOM: its text, and what the text tells. */
    private static final class Room {
        final int[] text = new int[LONGEST];
        int length;
        int faultAt = NONE;
        int people;
        int tales;
        /** Of each of the PEOPLE TICKLISH, HOLD, LEAVE, WORTH. */
        final int[] figures = new int[MOST * MOST];
        final int[] funny = new int[MOST];
        /** LAW, SEVERAL, who OWES it at first. */
        final int[] rules = new int[3];
        private int at;

        boolean append(int sign) {
            if (length >= LONGEST) {
                return false;
            }
            text[length] = sign;
            length++;
            interpret();
            return true;
        }

        void empty() {
            length = 0;
            interpret();
        }

        int funnyTogether() {
            int together = 0;
            for (int i = 0; i < tales; i++) {
                together += funny[i];
            }
            return together;
        }

        int worthTogether() {
            int together = 0;
            for (int p = 0; p < people; p++) {
                together += figures[MOST * p + WORTH];
            }
            return together;
        }

        private void interpret() {
            forget();
            faultAt = NONE;
            if (!readParts()) {
                faultAt = at;
                forget();
            }
            if (rules[2] >= people) {
                rules[2] = 0;
            }
        }

        private void forget() {
            people = 0;
            tales = 0;
            rules[0] = 0;
            rules[1] = 0;
            rules[2] = 0;
        }

        /** Where a reader answers false, 'at' is left at the FAULT. */
        private boolean readParts() {
            at = 0;
            if (length == 0) {
                return true;
            }
            for (int parts = 0; parts < LONGEST; parts++) {
                if (!readPart()) {
                    return false;
                }
                if (at == length) {
                    return true;
                }
                if (sign() != ';') {
                    return false;
                }
                at++;
            }
            return false;
        }

        private boolean readPart() {
            switch (sign()) {
                case 'p': return readPerson();
                case 't': return readTale();
                case 'l': return readRule(0, HALVED);
                case 'm': return readRule(1, ALIKE);
                case 'o': return readRule(2, MOST - 1);
                default: return false;
            }
        }

        private boolean readPerson() {
            if (people >= MOST) {
                return false;
            }
            at++;
            for (int what = 0; what <= WORTH; what++) {
                if (!isFigure(HIGHEST)) {
                    return false;
                }
                figures[MOST * people + what] = sign() - '0';
                at++;
            }
            people++;
            return true;
        }

        private boolean readTale() {
            if (tales >= MOST) {
                return false;
            }
            at++;
            if (!isFigure(HIGHEST)) {
                return false;
            }
            funny[tales] = sign() - '0';
            at++;
            tales++;
            return true;
        }

        private boolean readRule(int which, int highest) {
            at++;
            if (!isFigure(highest)) {
                return false;
            }
            rules[which] = sign() - '0';
            at++;
            return true;
        }

        private int sign() {
            return at < length ? text[at] : NONE;
        }

        private boolean isFigure(int highest) {
            return within(sign() - '0', highest);
        }
    }

    /** Who sits there, at which tales, by which law: THE ROOM and the WAYS, or a what-if of them. */
    private static final class Company {
        private final Room room;
        private final int[] holding;
        private final int[] leaving;
        int people;
        int tales;
        int law;
        int several;
        int owner;
        int away;
        final int[] figures = new int[MOST * MOST];
        final int[] funny = new int[MOST];
        final int[] holds = new int[MOST];
        final int[] leaves = new int[MOST];

        Company(Room room, int[] holding, int[] leaving) {
            this.room = room;
            this.holding = holding;
            this.leaving = leaving;
        }

        /** What-ifs change the company, so each one begins with it as it is. */
        void gather() {
            people = room.people;
            tales = room.tales;
            law = room.rules[0];
            several = room.rules[1];
            owner = room.rules[2];
            away = 0;
            System.arraycopy(room.figures, 0, figures, 0, MOST * MOST);
            System.arraycopy(room.funny, 0, funny, 0, MOST);
            System.arraycopy(holding, 0, holds, 0, MOST);
            System.arraycopy(leaving, 0, leaves, 0, MOST);
        }

        /** The WAYS of that number may have been set ahead; who is hired does not go by them. */
        void seatOneMore(int ticklish) {
            if (people >= MOST) {
                return;
            }
            figures[MOST * people + TICKLISH] = ticklish;
            holds[people] = 0;
            leaves[people] = NEVER;
            people++;
        }

        boolean isThere(int p, int i) {
            return i < leaves[p] && (away >> p & 1) == 0;
        }

        int quartersAt(int p, int i) {
            if (!isThere(p, i)) {
                return 0;
            }
            int mood = i == 0 ? 0 : funny[i - 1] / 2;
            return quartersOf(figures[MOST * p + TICKLISH], funny[i], mood, hasBit(holds[p], i));
        }

        /** What HOLDS and LEAVES of one cost, whoever has it in the end. */
        int feesOf(int p) {
            int fees = leaves[p] < tales ? figures[MOST * p + LEAVE] : 0;
            for (int i = 0; i < tales; i++) {
                if (isThere(p, i) && hasBit(holds[p], i)) {
                    fees += figures[MOST * p + HOLD];
                }
            }
            return fees;
        }
    }

    /**
     * Who has it how likely behind each tale. At one tale, chances are whole
     * numbers of parts: 256 (a quarter for each of four) times 12 (shared by
     * up to four alike), so no fraction is needed till one is told; amounts
     * have twice as many parts at each tale, as they may halve there.
     */
    private static final class Chances {
        private static final int SHARED = 12;
        /** For each tale three slots (one is there, HOLDS it, is away), of each who gets it and, last, that all stays. */
        private static final int SLOTS = 3, WIDTH = 5, STAY = 4;
        private static final int THERE = 0, HELD = 1, AWAY = 2;
        /** 3072 and 6144, to the power of 0 to 4. */
        private static final long[] OWED = {1L, 3072L, 9437184L, 28991029248L, 89060441849856L};
        private static final long[] COSTS = {1L, 6144L, 37748736L, 231928233984L, 1424967069597696L};

        private final Company company;
        private final long[] sets = new long[16];
        private final long[] passes = new long[MOST * SLOTS * WIDTH];
        private final long[] owed = new long[(MOST + 1) * MOST];
        private final long[] before = new long[MOST];
        /** By FIRST, the chance that it has been nobody's so far. */
        private long open;
        final long[] amounts = new long[MOST];

        Chances(Company company) {
            this.company = company;
        }

        /** In as many parts as are a whole behind all tales. */
        long owedInParts(int p, int told) {
            return owed[MOST * told + p] * OWED[company.tales - told];
        }

        long owedWhole() {
            return OWED[company.tales];
        }

        long costWhole() {
            return COSTS[company.tales];
        }

        long costOf(int p) {
            return company.figures[MOST * p + WORTH] * amounts[p] + company.feesOf(p) * costWhole();
        }

        long owedFrom(int owner, int p) {
            company.owner = owner;
            play();
            return owed[MOST * company.tales + p];
        }

        void play() {
            begin();
            for (int i = 0; i < company.tales; i++) {
                split(i);
                spread(SLOTS * i + THERE);
                step(i, SLOTS * i + THERE);
            }
            finish();
        }

        /** Weighs all that one may do at each tale, so that replay need not weigh again for each of one's ways. */
        void weighChoices(int p) {
            for (int choice = THERE; choice <= AWAY; choice++) {
                company.holds[p] = choice == HELD ? 15 : 0;
                company.leaves[p] = choice == AWAY ? 0 : NEVER;
                for (int i = 0; i < company.tales; i++) {
                    split(i);
                    spread(SLOTS * i + choice);
                }
            }
        }

        void replay(int p) {
            begin();
            for (int i = 0; i < company.tales; i++) {
                int choice = hasBit(company.holds[p], i) ? HELD : THERE;
                step(i, SLOTS * i + (company.isThere(p, i) ? choice : AWAY));
            }
            finish();
        }

        /** The chances, in parts of 256, that just these laugh. */
        private void split(int i) {
            sets[0] = 1 << 2 * (MOST - company.people);
            for (int p = 0; p < company.people; p++) {
                int quarters = company.quartersAt(p, i);
                int width = 1 << p;
                for (int set = 0; set < width; set++) {
                    sets[set + width] = sets[set] * quarters;
                    sets[set] *= MOST - quarters;
                }
            }
        }

        /** Of each set that may laugh, who gets it by that. */
        private void spread(int slot) {
            int base = WIDTH * slot;
            for (int q = 0; q < WIDTH; q++) {
                passes[base + q] = 0;
            }
            for (int set = 0; set < 1 << company.people; set++) {
                if (sets[set] != 0) {
                    passOn(base, set, sets[set]);
                }
            }
        }

        private void passOn(int base, int set, long chance) {
            int laughing = Integer.bitCount(set);
            if (laughing == 0 || laughing > 1 && company.several == NOBODY) {
                passes[base + STAY] += SHARED * chance;
                return;
            }
            int takers = company.several == LEAST ? 1 : laughing;
            int left = takers;
            for (int p = 0; p < company.people && left > 0; p++) {
                if (hasBit(set, p)) {
                    passes[base + p] += SHARED / takers * chance;
                    left--;
                }
            }
        }

        private void begin() {
            for (int p = 0; p < MOST; p++) {
                owed[p] = p == company.owner ? 1 : 0;
                amounts[p] = owed[p];
            }
            open = 1;
        }

        private void step(int i, int slot) {
            int base = WIDTH * slot;
            if (company.law == FIRST) {
                stepOnce(i, base);
            } else {
                stepOn(i, base);
            }
            if (company.law == HALVED) {
                halve(base);
            }
        }

        private void stepOn(int i, int base) {
            for (int p = 0; p < company.people; p++) {
                owed[MOST * (i + 1) + p] = owed[MOST * i + p] * passes[base + STAY] + OWED[i] * passes[base + p];
            }
        }

        /** While it is open it is with the owner, who loses what passes on then. */
        private void stepOnce(int i, int base) {
            long stay = passes[base + STAY];
            for (int p = 0; p < company.people; p++) {
                long passed = open * passes[base + p];
                if (p == company.owner) {
                    passed -= open * (OWED[1] - stay);
                }
                owed[MOST * (i + 1) + p] = owed[MOST * i + p] * OWED[1] + passed;
            }
            open *= stay;
        }

        private void halve(int base) {
            long all = 0;
            for (int p = 0; p < company.people; p++) {
                before[p] = amounts[p];
                all += amounts[p];
            }
            for (int p = 0; p < company.people; p++) {
                long kept = passes[base + STAY] + passes[base + p];
                amounts[p] = 2 * before[p] * kept + (all - before[p]) * passes[base + p];
            }
        }

        private void finish() {
            if (company.law == HALVED) {
                return;
            }
            for (int p = 0; p < company.people; p++) {
                amounts[p] = owed[MOST * company.tales + p] << company.tales;
            }
        }
    }

    /** The least of many what-ifs; each search goes through them in the order that settles which of like ones it is. */
    private static final class Search {
        private static final int MOST_ROUNDS = 20;

        private final Company company;
        private final Chances chances;
        long bestCost;
        int bestHolds;
        int bestLeaves;
        int rounds;
        final int[] restHolds = new int[MOST];
        final int[] restLeaves = new int[MOST];
        final int[] bestRow = new int[MOST];
        private final int[] row = new int[MOST];
        private final int[] funnyNow = new int[MOST];

        Search(Company company, Chances chances) {
            this.company = company;
            this.chances = chances;
        }

        void findBest(int p) {
            company.gather();
            compareWays(p);
        }

        /** BEST in the company as it is now; its WAYS are kept. */
        private void compareWays(int p) {
            int holdsNow = company.holds[p];
            int leavesNow = company.leaves[p];
            chances.weighChoices(p);
            bestCost = GREATEST_LONG;
            compareHolds(p, NEVER);
            for (int leaves = company.tales - 1; leaves >= 0; leaves--) {
                compareHolds(p, leaves);
            }
            company.holds[p] = holdsNow;
            company.leaves[p] = leavesNow;
        }

        /** To hold it once one has left changes nothing, so the lesser HOLDS are without that. */
        private void compareHolds(int p, int leaves) {
            int there = Math.min(leaves, company.tales);
            company.leaves[p] = leaves;
            for (int holds = 0; holds < 1 << there; holds++) {
                company.holds[p] = holds;
                chances.replay(p);
                long cost = chances.costOf(p);
                if (cost < bestCost) {
                    bestCost = cost;
                    bestHolds = holds;
                    bestLeaves = leaves;
                }
            }
        }

        /** REST. */
        void settle() {
            company.gather();
            rounds = NONE;
            for (int round = 1; round <= MOST_ROUNDS && rounds == NONE; round++) {
                if (!roundChanges()) {
                    rounds = round;
                }
            }
            System.arraycopy(company.holds, 0, restHolds, 0, MOST);
            System.arraycopy(company.leaves, 0, restLeaves, 0, MOST);
        }

        private boolean roundChanges() {
            boolean changed = false;
            for (int p = 0; p < company.people; p++) {
                chances.play();
                long now = chances.costOf(p);
                compareWays(p);
                if (bestCost < now) {
                    company.holds[p] = bestHolds;
                    company.leaves[p] = bestLeaves;
                    changed = true;
                }
            }
            return changed;
        }

        void findOrder(int p) {
            company.gather();
            System.arraycopy(company.funny, 0, funnyNow, 0, MOST);
            long least = GREATEST_LONG;
            for (int number = 0; number < 1 << 2 * company.tales; number++) {
                if (setRow(number)) {
                    chances.play();
                    if (chances.amounts[p] < least) {
                        least = chances.amounts[p];
                        System.arraycopy(row, 0, bestRow, 0, MOST);
                    }
                }
            }
        }

        /** The tales in the row that a number tells in figures of 0 to 3; false, if that is no order of all. */
        private boolean setRow(int number) {
            int used = 0;
            for (int place = 0; place < company.tales; place++) {
                int tale = number >> 2 * (company.tales - 1 - place) & 3;
                if (tale >= company.tales || hasBit(used, tale)) {
                    return false;
                }
                used |= 1 << tale;
                row[place] = tale;
                company.funny[place] = funnyNow[tale];
            }
            return true;
        }

        int bestCompany(int p) {
            company.gather();
            if (company.people < 2) {
                return NOT;
            }
            int others = (1 << company.people) - 1 & ~(1 << p);
            int always = 1 << company.owner & others;
            int bestBits = others;
            long least = GREATEST_LONG;
            for (int bits = 1; bits <= others; bits++) {
                if ((bits & ~others) == 0 && (bits & always) == always) {
                    company.away = others & ~bits;
                    chances.play();
                    if (chances.amounts[p] < least) {
                        least = chances.amounts[p];
                        bestBits = bits;
                    }
                }
            }
            return bestBits;
        }

        int bestLaw(int p) {
            company.gather();
            int bestNumber = 0;
            long least = GREATEST_LONG;
            for (int number = 0; number < 9; number++) {
                company.law = number / 3;
                company.several = number % 3;
                chances.play();
                if (chances.amounts[p] < least) {
                    least = chances.amounts[p];
                    bestNumber = number;
                }
            }
            return bestNumber;
        }

        int leastFunnyToLeave(int p) {
            company.gather();
            int last = company.tales - 1;
            if (last < 0) {
                return NOT;
            }
            for (int funny = 0; funny <= HIGHEST; funny++) {
                company.funny[last] = funny;
                company.leaves[p] = last;
                chances.play();
                long leaving = chances.costOf(p);
                company.leaves[p] = NEVER;
                chances.play();
                if (leaving < chances.costOf(p)) {
                    return funny;
                }
            }
            return NONE;
        }
    }

    /** Evenings by a SEED. */
    private static final class Lots {
        int seed;

        int endOfEvening(Company company) {
            int owner = company.owner;
            boolean passed = false;
            for (int i = 0; i < company.tales; i++) {
                int taker = takerOf(company.several, laughing(company, i));
                if (taker != NONE && !(passed && company.law == FIRST)) {
                    owner = taker;
                    passed = true;
                }
            }
            return owner;
        }

        private int laughing(Company company, int i) {
            int set = 0;
            for (int p = 0; p < company.people; p++) {
                if (company.isThere(p, i) && draw(MOST) < company.quartersAt(p, i)) {
                    set |= 1 << p;
                }
            }
            return set;
        }

        private int takerOf(int several, int set) {
            int laughed = Integer.bitCount(set);
            if (laughed > 1 && several == NOBODY) {
                return NONE;
            }
            int place = laughed > 1 && several == ALIKE ? draw(laughed) : 0;
            for (int p = 0; p < MOST; p++) {
                if (hasBit(set, p)) {
                    if (place == 0) {
                        return p;
                    }
                    place--;
                }
            }
            return NONE;
        }

        private int draw(int m) {
            seed = 1103515245 * seed + 12345;
            return m > 0 ? (seed >>> 16) % m : 0;
        }
    }

    /** A fraction in lowest terms. */
    private static final class Share {
        private static final int MOST_STEPS = 200;
        private long above;
        private long below = 1;

        Share put(long newAbove, long newBelow) {
            long divisor = commonDivisor(Math.abs(newAbove), newBelow);
            above = divisor > 0 ? newAbove / divisor : 0;
            below = divisor > 0 ? newBelow / divisor : 1;
            return this;
        }

        long part(int what) {
            return what == 0 ? above : below;
        }

        long mixedInto(long h) {
            return 31 * (31 * h + above) + below;
        }

        private static long commonDivisor(long one, long another) {
            long a = one;
            long b = another;
            for (int steps = 0; steps < MOST_STEPS && b != 0; steps++) {
                long left = a % b;
                a = b;
                b = left;
            }
            return a;
        }
    }

    /** All that was SEEN. */
    private static final class Seen {
        int size;
        private final int[] who = new int[LONGEST];
        private final int[] funny = new int[LONGEST];
        private final int[] mood = new int[LONGEST];
        private final int[] held = new int[LONGEST];
        private final int[] laughed = new int[LONGEST];

        boolean add(int p, int newFunny, int newMood, int newHeld, int newLaughed) {
            if (size >= LONGEST) {
                return false;
            }
            who[size] = p;
            funny[size] = newFunny;
            mood[size] = newMood;
            held[size] = newHeld;
            laughed[size] = newLaughed;
            size++;
            return true;
        }

        int laughedTogether() {
            int together = 0;
            for (int k = 0; k < size; k++) {
                together += laughed[k];
            }
            return together;
        }

        int offBy(int p, int ticklish) {
            int together = 0;
            for (int k = 0; k < size; k++) {
                if (who[k] == p) {
                    int quarters = quartersOf(ticklish, funny[k], mood[k], held[k] == 1);
                    int less = MOST * laughed[k] - quarters;
                    together += less * less;
                }
            }
            return together;
        }

        int likeliest(int p) {
            if (!wasSeen(p)) {
                return NOT;
            }
            int likeliest = 0;
            int least = ~LEAST_INT;
            for (int ticklish = 0; ticklish <= HIGHEST; ticklish++) {
                int by = offBy(p, ticklish);
                if (by < least) {
                    least = by;
                    likeliest = ticklish;
                }
            }
            return likeliest;
        }

        int howMany(int p, int ofFunny, boolean onlyLaughed) {
            int many = 0;
            for (int k = 0; k < size; k++) {
                if (who[k] == p && funny[k] == ofFunny && !(onlyLaughed && laughed[k] == 0)) {
                    many++;
                }
            }
            return many;
        }

        private boolean wasSeen(int p) {
            for (int k = 0; k < size; k++) {
                if (who[k] == p) {
                    return true;
                }
            }
            return false;
        }
    }

    /** The SHEETS, each in a stretch of one row of items, and the latest FINDING. */
    private static final class Sheets {
        private static final int LOST = -1;
        int finding;
        final int[] sizes = {LOST, LOST, LOST, LOST};
        final int[] forms = new int[MOST];
        private final int[] items = new int[MOST * LONGEST];

        int find(int newFinding) {
            finding = newFinding;
            return -10 - newFinding;
        }

        boolean isLost(int s) {
            return sizes[s] == LOST;
        }

        void renew(int s, int form, int n) {
            forms[s] = form;
            sizes[s] = n;
            for (int i = 0; i < LONGEST; i++) {
                items[LONGEST * s + i] = 0;
            }
        }

        int drop(int s) {
            int had = sizes[s];
            sizes[s] = LOST;
            return had;
        }

        /** The FINDING that stands against item i as of a FORM; 0: none. */
        int lookUp(int s, int form, int i) {
            if (isLost(s)) {
                return NULL;
            }
            if (forms[s] != form) {
                return CAST;
            }
            return i < 0 || i >= sizes[s] ? INDEX : 0;
        }

        /** By the difference, as a sum of great numbers would wrap. */
        boolean hasItems(int s, int from, int n) {
            return from >= 0 && n >= 0 && from <= sizes[s] && n <= sizes[s] - from;
        }

        int item(int s, int i) {
            return items[LONGEST * s + i];
        }

        void put(int s, int i, int v) {
            items[LONGEST * s + i] = cut(forms[s], v);
        }

        void move(int s, int i, int t, int j, int n) {
            System.arraycopy(items, LONGEST * s + i, items, LONGEST * t + j, n);
        }

        private static int cut(int form, int v) {
            switch (form) {
                case 0: return (byte) v;
                case 1: return (short) v;
                default: return v;
            }
        }
    }
}
