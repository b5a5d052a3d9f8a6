import java.math.BigInteger;
import java.util.ArrayList;
import java.util.HashMap;
import java.util.List;
import java.util.Map;
import java.util.Random;
import java.util.regex.Matcher;
import java.util.regex.Pattern;

/**
 * Random runs of calls, each answer compared with that of a second, slow model
 * that is written straight from the document: exact fractions, every way and
 * every order gone through, nothing shared with the class.
 */
public final class ModelTest {
    private static final long LEAST = Long.MIN_VALUE;
    private static int wrong = 0;
    private static int calls = 0;

    public static void main(String[] args) {
        for (int run = 0; run < 250; run++) {
            new Run(new Random(1000 + run), run).go();
        }
        texts();
        System.out.println(calls + " calls compared with the model, " + wrong + " wrong");
        if (wrong != 0 || calls < 10000) {
            System.exit(1);
        }
    }

    private static void texts() {
        Random random = new Random(77);
        String signs = "ptlmo;;;0123456789pptt12x";
        for (int run = 0; run < 3000; run++) {
            LaughsLast x = new LaughsLast();
            StringBuilder text = new StringBuilder();
            int n = random.nextInt(30);
            for (int k = 0; k < n; k++) {
                String more;
                switch (random.nextInt(4)) {
                    case 0: more = "t" + random.nextInt(10) + ";"; break;
                    case 1: more = "p" + (1000 + random.nextInt(9000)) + ";"; break;
                    case 2: more = "" + "lmo".charAt(random.nextInt(3)) + random.nextInt(4) + ";"; break;
                    default: more = random.nextInt(12) == 0 ? "" + signs.charAt(random.nextInt(signs.length())) : ""; break;
                }
                text.append(more);
            }
            if (random.nextBoolean() && text.length() > 0) {
                text.setLength(text.length() - 1);
            }
            if (text.length() > 60) {
                text.setLength(60);
            }
            for (int k = 0; k < text.length(); k++) {
                x.type(text.charAt(k));
            }
            Model model = new Model();
            model.text.append(text);
            model.read();
            same("fault of " + text, x.fault(), model.fault);
            same("people of " + text, x.count(0), model.people.size());
            same("tales of " + text, x.count(1), model.funny.size());
            for (int what = 0; what < 3; what++) {
                same("law of " + text, x.law(what), model.rule[what]);
            }
        }
    }

    static void same(String call, long got, long want) {
        calls++;
        if (got != want) {
            wrong++;
            if (wrong < 50) {
                System.out.println(call + " answered " + got + ", the model says " + want);
            }
        }
    }

    /** An exact fraction. */
    static final class F implements Comparable<F> {
        static final F ZERO = new F(BigInteger.ZERO, BigInteger.ONE);
        static final F ONE = of(1, 1);
        final BigInteger a;
        final BigInteger b;

        F(BigInteger above, BigInteger below) {
            BigInteger g = above.gcd(below);
            a = above.divide(g);
            b = below.divide(g);
        }

        static F of(long above, long below) {
            return new F(BigInteger.valueOf(above), BigInteger.valueOf(below));
        }

        F plus(F o) {
            return new F(a.multiply(o.b).add(o.a.multiply(b)), b.multiply(o.b));
        }

        F minus(F o) {
            return plus(new F(o.a.negate(), o.b));
        }

        F times(F o) {
            return new F(a.multiply(o.a), b.multiply(o.b));
        }

        F by(F o) {
            return new F(a.multiply(o.b), b.multiply(o.a));
        }

        public int compareTo(F o) {
            return a.multiply(o.b).compareTo(o.a.multiply(b));
        }

        long part(int what) {
            return what == 0 ? a.longValueExact() : b.longValueExact();
        }
    }

    /** One evening's setting, as the document tells it. */
    static final class Setting {
        List<int[]> people = new ArrayList<>();
        List<Integer> funny = new ArrayList<>();
        int law;
        int several;
        int owner;
        int[] holds = new int[5];
        int[] leaves = {4, 4, 4, 4, 4};
        int away;

        Setting copy() {
            Setting s = new Setting();
            s.people.addAll(people);
            s.funny.addAll(funny);
            s.law = law;
            s.several = several;
            s.owner = owner;
            s.holds = holds.clone();
            s.leaves = leaves.clone();
            s.away = away;
            return s;
        }

        boolean there(int p, int i) {
            return (away >> p) % 2 == 0 && leaves[p] > i;
        }

        int quarters(int p, int i) {
            if (!there(p, i)) {
                return 0;
            }
            int mood = i == 0 ? 0 : funny.get(i - 1) / 2;
            return quartersBy(people.get(p)[0], funny.get(i), mood, (holds[p] >> i) % 2 == 1);
        }

        static int quartersBy(int ticklish, int funny, int mood, boolean held) {
            if (ticklish * funny == 0) {
                return 0;
            }
            return Math.max(0, Math.min(4, (ticklish * funny + 5 * mood) / 20) - (held ? 2 : 0));
        }

        /** Behind each number of tales, the chance of each {owner, given, halvings}. */
        List<Map<List<Integer>, F>> histories() {
            List<Map<List<Integer>, F>> all = new ArrayList<>();
            Map<List<Integer>, F> now = new HashMap<>();
            now.put(List.of(owner, 0, 0), F.ONE);
            all.add(now);
            for (int i = 0; i < funny.size(); i++) {
                Map<List<Integer>, F> next = new HashMap<>();
                for (Map.Entry<List<Integer>, F> e : now.entrySet()) {
                    for (int set = 0; set < 1 << people.size(); set++) {
                        F chance = e.getValue();
                        List<Integer> who = new ArrayList<>();
                        for (int p = 0; p < people.size(); p++) {
                            boolean laughs = (set >> p) % 2 == 1;
                            int q = quarters(p, i);
                            chance = chance.times(F.of(laughs ? q : 4 - q, 4));
                            if (laughs) {
                                who.add(p);
                            }
                        }
                        if (chance.a.signum() != 0) {
                            pass(next, e.getKey(), who, chance);
                        }
                    }
                }
                all.add(next);
                now = next;
            }
            return all;
        }

        private void pass(Map<List<Integer>, F> next, List<Integer> state, List<Integer> who, F chance) {
            if (who.isEmpty() || who.size() > 1 && several == 0) {
                next.merge(state, chance, F::plus);
            } else if (who.size() > 1 && several == 2) {
                for (int p : who) {
                    next.merge(given(state, p), chance.times(F.of(1, who.size())), F::plus);
                }
            } else {
                next.merge(given(state, who.get(0)), chance, F::plus);
            }
        }

        private List<Integer> given(List<Integer> state, int p) {
            if (law == 1 && state.get(1) == 1) {
                return state;
            }
            return List.of(p, 1, state.get(2) + (law == 2 && p != state.get(0) ? 1 : 0));
        }

        F owes(int p, int tales) {
            F sum = F.ZERO;
            for (Map.Entry<List<Integer>, F> e : histories().get(tales).entrySet()) {
                if (e.getKey().get(0) == p) {
                    sum = sum.plus(e.getValue());
                }
            }
            return sum;
        }

        F amount(int p) {
            F sum = F.ZERO;
            for (Map.Entry<List<Integer>, F> e : histories().get(funny.size()).entrySet()) {
                if (e.getKey().get(0) == p) {
                    sum = sum.plus(e.getValue().times(F.of(1, 1L << e.getKey().get(2))));
                }
            }
            return sum;
        }

        F cost(int p) {
            F cost = amount(p).times(F.of(people.get(p)[3], 1));
            for (int i = 0; i < funny.size(); i++) {
                if (there(p, i) && (holds[p] >> i) % 2 == 1) {
                    cost = cost.plus(F.of(people.get(p)[1], 1));
                }
                if (leaves[p] == i) {
                    cost = cost.plus(F.of(people.get(p)[2], 1));
                }
            }
            return cost;
        }

        /** {HOLDS, LEAVES} of the BEST. */
        int[] best(int p) {
            int[] ways = null;
            F least = null;
            Setting s = copy();
            for (int leaves = 0; leaves <= 4; leaves++) {
                if (leaves < 4 && leaves >= funny.size()) {
                    continue;
                }
                for (int holds = 0; holds < 1 << funny.size(); holds++) {
                    s.leaves[p] = leaves;
                    s.holds[p] = holds;
                    F cost = s.cost(p);
                    int order = least == null ? -1 : cost.compareTo(least);
                    if (order < 0 || order == 0 && (leaves > ways[1] || leaves == ways[1] && holds < ways[0])) {
                        least = cost;
                        ways = new int[] {holds, leaves};
                    }
                }
            }
            return ways;
        }

        int rest() {
            for (int round = 1; round <= 20; round++) {
                boolean less = false;
                for (int p = 0; p < people.size(); p++) {
                    int[] ways = best(p);
                    Setting s = copy();
                    s.holds[p] = ways[0];
                    s.leaves[p] = ways[1];
                    if (s.cost(p).compareTo(cost(p)) < 0) {
                        holds[p] = ways[0];
                        leaves[p] = ways[1];
                        less = true;
                    }
                }
                if (!less) {
                    return round;
                }
            }
            return -1;
        }

        List<Integer> order(int p) {
            List<List<Integer>> rows = new ArrayList<>();
            rows(new ArrayList<>(), rows);
            List<Integer> best = null;
            F least = null;
            for (List<Integer> row : rows) {
                Setting s = copy();
                for (int k = 0; k < row.size(); k++) {
                    s.funny.set(k, funny.get(row.get(k)));
                }
                F amount = s.amount(p);
                if (least == null || amount.compareTo(least) < 0) {
                    least = amount;
                    best = row;
                }
            }
            return best;
        }

        private void rows(List<Integer> begun, List<List<Integer>> rows) {
            if (begun.size() == funny.size()) {
                rows.add(new ArrayList<>(begun));
            }
            for (int i = 0; i < funny.size(); i++) {
                if (!begun.contains(i)) {
                    begun.add(i);
                    rows(begun, rows);
                    begun.remove(begun.size() - 1);
                }
            }
        }

        int among(int p) {
            int n = people.size();
            int best = -3;
            F least = null;
            for (int bits = 1; bits < 1 << n; bits++) {
                boolean fits = (bits >> p) % 2 == 0 && (owner == p || (bits >> owner) % 2 == 1);
                if (fits) {
                    Setting s = copy();
                    s.away = (1 << n) - 1 - bits - (1 << p);
                    F amount = s.amount(p);
                    if (least == null || amount.compareTo(least) < 0) {
                        least = amount;
                        best = bits;
                    }
                }
            }
            return best;
        }

        F hire(int p, int ticklish) {
            Setting s = copy();
            s.holds[people.size()] = 0;
            s.leaves[people.size()] = 4;
            s.people.add(new int[] {ticklish, 0, 0, 0});
            return cost(p).minus(s.cost(p));
        }

        F other(int p, int otherLaw, int otherSeveral) {
            Setting s = copy();
            s.law = otherLaw;
            s.several = otherSeveral;
            return s.amount(p);
        }

        int lawFor(int p) {
            int best = 0;
            for (int k = 1; k < 9; k++) {
                if (other(p, k / 3, k % 3).compareTo(other(p, best / 3, best % 3)) < 0) {
                    best = k;
                }
            }
            return best;
        }

        int edge(int p) {
            int last = funny.size() - 1;
            if (last < 0) {
                return -3;
            }
            for (int f = 0; f < 10; f++) {
                Setting leaving = copy();
                leaving.funny.set(last, f);
                leaving.leaves[p] = last;
                Setting never = leaving.copy();
                never.leaves[p] = 4;
                if (leaving.cost(p).compareTo(never.cost(p)) < 0) {
                    return f;
                }
            }
            return -1;
        }

        /** The share of the first; null: NOT. */
        F two() {
            if (people.size() != 2) {
                return null;
            }
            Setting s = copy();
            s.owner = 0;
            F gone = s.owes(1, funny.size());
            s.owner = 1;
            F back = s.owes(0, funny.size());
            return gone.plus(back).a.signum() == 0 ? null : back.by(gone.plus(back));
        }
    }

    /** LOTS by a SEED, with longs in place of ints that wrap. */
    static final class Lot {
        long seed;

        int of(int m) {
            seed = (1103515245L * seed + 12345L) & 0xffffffffL;
            return (int) ((seed / 65536) % m);
        }

        int evening(Setting s) {
            int owner = s.owner;
            boolean given = false;
            for (int i = 0; i < s.funny.size(); i++) {
                List<Integer> who = new ArrayList<>();
                for (int p = 0; p < s.people.size(); p++) {
                    if (s.there(p, i)) {
                        if (of(4) < s.quarters(p, i)) {
                            who.add(p);
                        }
                    }
                }
                int taker = -1;
                if (who.size() == 1 || who.size() > 1 && s.several == 1) {
                    taker = who.get(0);
                } else if (who.size() > 1 && s.several == 2) {
                    taker = who.get(of(who.size()));
                }
                if (taker >= 0 && (s.law != 1 || !given)) {
                    owner = taker;
                    given = true;
                }
            }
            return owner;
        }
    }

    /** The whole object, as the document tells it. */
    static final class Model {
        static final Pattern ROOM = Pattern.compile("((p[0-9]{4}|t[0-9]|l[0-2]|m[0-2]|o[0-3])(;(p[0-9]{4}|t[0-9]|l[0-2]|m[0-2]|o[0-3]))*)?");
        final StringBuilder text = new StringBuilder();
        int fault = -1;
        List<int[]> people = new ArrayList<>();
        List<Integer> funny = new ArrayList<>();
        int[] rule = new int[3];
        int[] holds = new int[4];
        int[] leaves = {4, 4, 4, 4};
        int[] weights = new int[5];
        List<int[]> seen = new ArrayList<>();

        static boolean goesOn(String begun) {
            Matcher m = ROOM.matcher(begun);
            boolean whole = m.matches();
            return (whole || m.hitEnd()) && begun.chars().filter(c -> c == 'p').count() <= 4
                && begun.chars().filter(c -> c == 't').count() <= 4;
        }

        void read() {
            people.clear();
            funny.clear();
            rule = new int[3];
            fault = -1;
            for (int k = 0; k < text.length() && fault < 0; k++) {
                if (!goesOn(text.substring(0, k + 1))) {
                    fault = k;
                }
            }
            if (fault < 0 && !ROOM.matcher(text).matches()) {
                fault = text.length();
            }
            if (fault >= 0 || text.length() == 0) {
                return;
            }
            for (String part : text.toString().split(";")) {
                int figure = part.charAt(1) - '0';
                switch (part.charAt(0)) {
                    case 'p':
                        people.add(part.substring(1).chars().map(c -> c - '0').toArray());
                        break;
                    case 't': funny.add(figure); break;
                    case 'l': rule[0] = figure; break;
                    case 'm': rule[1] = figure; break;
                    default: rule[2] = figure; break;
                }
            }
            if (rule[2] >= people.size()) {
                rule[2] = 0;
            }
        }

        Setting setting() {
            Setting s = new Setting();
            s.people.addAll(people);
            s.funny.addAll(funny);
            s.law = rule[0];
            s.several = rule[1];
            s.owner = rule[2];
            for (int p = 0; p < 4; p++) {
                s.holds[p] = holds[p];
                s.leaves[p] = leaves[p];
            }
            return s;
        }

        F early(int p) {
            F sum = F.ZERO;
            int all = 0;
            for (int k = 0; k < 5; k++) {
                all += weights[k];
                sum = sum.plus(setting().owes(p, Math.min(k, funny.size())).times(F.of(weights[k], 1)));
            }
            return all == 0 ? null : sum.times(F.of(1, all));
        }

        int off(int p, int ticklish) {
            int sum = 0;
            for (int[] s : seen) {
                if (s[0] == p) {
                    int d = (s[4] == 1 ? 4 : 0) - Setting.quartersBy(ticklish, s[1], s[2], s[3] == 1);
                    sum += d * d;
                }
            }
            return sum;
        }

        int guess(int p) {
            if (seen.stream().noneMatch(s -> s[0] == p)) {
                return -3;
            }
            int best = 0;
            for (int t = 1; t < 10; t++) {
                if (off(p, t) < off(p, best)) {
                    best = t;
                }
            }
            return best;
        }

        int evenings(int seed, int n, int p) {
            Lot lot = new Lot();
            lot.seed = seed & 0xffffffffL;
            int ended = 0;
            for (int k = 0; k < n; k++) {
                ended += lot.evening(setting()) == p ? 1 : 0;
            }
            return ended;
        }

        private long h;

        private void mix(long v) {
            h = 31 * h + v;
        }

        private void mix(F f, long refusal) {
            mix(f == null ? LEAST + refusal : f.part(0));
            mix(f == null ? LEAST + refusal : f.part(1));
        }

        long digest() {
            h = 17;
            mix(people.size());
            mix(funny.size());
            mix(text.length());
            mix(funny.stream().mapToInt(f -> f).sum());
            mix(seen.size());
            mix(seen.stream().mapToInt(s -> s[4]).sum());
            int all = 0;
            for (int w : weights) {
                all += w;
            }
            mix(all);
            mix(people.stream().mapToInt(p -> p[3]).sum());
            mix(fault);
            for (int r : rule) {
                mix(r);
            }
            Setting s = setting();
            Setting rested = setting();
            int rounds = rested.rest();
            for (int p = 0; p < people.size(); p++) {
                for (int i = 0; i < funny.size(); i++) {
                    mix(s.quarters(p, i));
                }
                mix(s.owes(p, funny.size()), 0);
                mix(s.amount(p), 0);
                mix(s.cost(p), 0);
                int[] best = s.best(p);
                mix(best[0]);
                mix(best[1]);
                mix(rested.holds[p]);
                mix(rested.leaves[p]);
                for (int i : s.order(p)) {
                    mix(i);
                }
                mix(s.among(p));
                mix(s.lawFor(p));
                mix(s.edge(p));
                mix(early(p), 3);
                mix(evenings(7, 9, p));
                mix(guess(p));
            }
            mix(rounds);
            mix(s.two(), 3);
            return h;
        }
    }

    /** One object and its model, through a random run. */
    static final class Run {
        /** Rooms in which best ways go round for ever. */
        static final String[] NO_REST = {"p7127;p6112;p8001;t4;t5;l0;m1", "p9216;p7226;t6;l0;m0",
            "p9114;p7015;p5219;p8005;t3;t7;t6;l2;m0", "p7226;p5013;p8216;p7125;t6;t6;t4;t3;l1;m1", "p9227;p5118;t9;l1;m0"};
        final Random random;
        final int number;
        final LaughsLast x = new LaughsLast();
        final Model m = new Model();

        Run(Random random, int number) {
            this.random = random;
            this.number = number;
        }

        void go() {
            for (int k = 0; k < 3; k++) {
                room();
                ways();
                ask();
                if (k > 0) {
                    same("run " + number + ": digest", x.digest(), m.digest());
                }
            }
        }

        void room() {
            StringBuilder text = new StringBuilder();
            if (number < NO_REST.length) {
                begin(NO_REST[number]);
                return;
            }
            int people = random.nextInt(12) == 0 ? 0 : 1 + random.nextInt(4);
            if (number % 3 == 0) {
                people = 2;
            }
            int tales = random.nextInt(5);
            for (int p = 0; p < people; p++) {
                text.append('p').append(figure()).append(random.nextInt(4) == 0 ? figure() : random.nextInt(2));
                text.append(random.nextInt(3)).append(figure()).append(';');
            }
            for (int i = 0; i < tales; i++) {
                text.append('t').append(figure()).append(';');
            }
            text.append('l').append(random.nextInt(3)).append(";m").append(random.nextInt(3)).append(";o").append(random.nextInt(4));
            begin(text);
        }

        void begin(CharSequence text) {
            same("wipe", x.wipe(), m.text.length());
            m.text.setLength(0);
            for (int k = 0; k < text.length(); k++) {
                m.text.append(text.charAt(k));
                same("type", x.type(text.charAt(k)), k + 1);
            }
            m.read();
        }

        int figure() {
            return random.nextInt(3) == 0 ? random.nextInt(10) : 4 + random.nextInt(6);
        }

        void ways() {
            for (int p = 0; p < 4; p++) {
                int h = random.nextBoolean() ? 0 : random.nextInt(16);
                int l = random.nextInt(3) > 0 ? 4 : random.nextInt(5);
                same("holds", x.holds(p, h), m.holds[p]);
                same("leaves", x.leaves(p, l), m.leaves[p]);
                m.holds[p] = h;
                m.leaves[p] = l;
            }
            for (int k = 0; k < 5; k++) {
                int v = random.nextInt(3) > 0 ? 0 : random.nextInt(10);
                same("weight", x.weight(k, v), m.weights[k]);
                m.weights[k] = v;
            }
            for (int k = random.nextInt(6); k > 0; k--) {
                int[] s = {random.nextInt(4), random.nextInt(10), random.nextInt(5), random.nextInt(2), random.nextInt(2)};
                m.seen.add(s);
                same("saw", x.saw(s[0], s[1], s[2], s[3], s[4]), m.seen.size());
            }
        }

        void ask() {
            String run = "run " + number + " " + m.text + ": ";
            Setting s = m.setting();
            Setting rested = m.setting();
            same(run + "rest", x.rest(-1, 0), rested.rest());
            for (int p = 0; p < 4; p++) {
                if (p < m.people.size()) {
                    askOfPerson(run + "person " + p + " ", p, s, rested);
                } else {
                    same(run + "owes", x.owes(p, 0, 0), LEAST + 2);
                    same(run + "rest", x.rest(p, 0), -2);
                }
                same(run + "guess", x.guess(p), m.guess(p));
                int t = random.nextInt(10);
                same(run + "off", x.off(p, t), m.off(p, t));
            }
            same(run + "two", x.two(0), s.two() == null ? LEAST + 3 : s.two().part(0));
            same(run + "two", x.two(1), s.two() == null ? LEAST + 3 : s.two().part(1));
            int seed = random.nextInt();
            Lot lot = new Lot();
            lot.seed = seed & 0xffffffffL;
            same(run + "made", x.made(seed), m.people.isEmpty() ? -3 : lot.evening(s));
        }

        void askOfPerson(String run, int p, Setting s, Setting rested) {
            int n = m.funny.size();
            for (int i = 0; i < n; i++) {
                same(run + "quarters", x.quarters(p, i), s.quarters(p, i));
            }
            for (int what = 0; what < 2; what++) {
                for (int i = 0; i <= n; i++) {
                    same(run + "owes", x.owes(p, i, what), s.owes(p, i).part(what));
                }
                same(run + "amount", x.amount(p, what), s.amount(p).part(what));
                same(run + "cost", x.cost(p, what), s.cost(p).part(what));
                same(run + "early", x.early(p, what), m.early(p) == null ? LEAST + 3 : m.early(p).part(what));
            }
            int[] best = s.best(p);
            Setting with = s.copy();
            with.holds[p] = best[0];
            with.leaves[p] = best[1];
            same(run + "best", x.best(p, 0), with.cost(p).part(0));
            same(run + "best", x.best(p, 1), with.cost(p).part(1));
            same(run + "best holds", x.best(p, 2), best[0]);
            same(run + "best leaves", x.best(p, 3), best[1]);
            same(run + "rest holds", x.rest(p, 0), rested.holds[p]);
            same(run + "rest leaves", x.rest(p, 1), rested.leaves[p]);
            for (int i = 0; i < n; i++) {
                same(run + "order", x.order(p, i), s.order(p).get(i));
            }
            same(run + "among", x.among(p), m.people.size() < 2 ? -3 : s.among(p));
            int t = random.nextInt(10);
            int law = random.nextInt(3);
            int several = random.nextInt(3);
            for (int what = 0; what < 2; what++) {
                long hired = m.people.size() == 4 ? LEAST + 4 : s.hire(p, t).part(what);
                same(run + "hire", x.hire(p, t, what), hired);
                same(run + "other", x.other(p, law, several, what), s.other(p, law, several).part(what));
            }
            same(run + "lawFor", x.lawFor(p), s.lawFor(p));
            same(run + "edge", x.edge(p), s.edge(p));
            int seed = random.nextInt();
            int count = 1 + random.nextInt(40);
            same(run + "evenings", x.evenings(seed, count, p), m.evenings(seed, count, p));
        }
    }
}
