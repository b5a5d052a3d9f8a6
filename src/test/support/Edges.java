import java.lang.reflect.Method;
import java.lang.reflect.Modifier;
import java.util.ArrayList;
import java.util.Arrays;
import java.util.Comparator;
import java.util.List;

/**
 * What the tests of boundary cases share. A class of such tests has, for each
 * sentence of the document that names a boundary case, a test whose remark
 * quotes it (RemarksTest looks after that).
 */
final class Edges {
    static final int NONE = -1, BAD = -2, NOT = -3, FULL = -4;
    static final int NULL = 1, INDEX = 2, CAST = 3, STORE = 4, SIZE = 5;
    static final int LEAST_INT = Integer.MIN_VALUE;
    /** Refusals where the answer is a long: the least long and x more. */
    static final long BAD_LONG = Long.MIN_VALUE + 2, NOT_LONG = Long.MIN_VALUE + 3, FULL_LONG = Long.MIN_VALUE + 4;
    /** The FINDING that a busy object was told last. */
    static final int BUSY_FINDING = STORE;

    private static int wrong = 0;
    private static int checks = 0;

    private Edges() {
    }

    interface Made {
        LaughsLast make();
    }

    interface Call {
        long on(LaughsLast x);
    }

    /** Runs every test of a class: its static methods without arguments. */
    static void runAll(Class<?> tests) throws Exception {
        Method[] methods = tests.getDeclaredMethods();
        Arrays.sort(methods, Comparator.comparing(Method::getName));
        int ran = 0;
        for (Method m : methods) {
            boolean isTest = Modifier.isStatic(m.getModifiers()) && m.getParameterCount() == 0 && m.getReturnType() == void.class;
            if (isTest && !m.isSynthetic()) {
                m.setAccessible(true);
                m.invoke(null);
                ran++;
            }
        }
        System.out.println(tests.getName() + ": " + ran + " tests, " + checks + " checks, " + wrong + " wrong");
        if (wrong != 0 || ran == 0) {
            System.exit(1);
        }
    }

    static void due(String call, long got, long want) {
        checks++;
        if (got != want) {
            wrong++;
            System.out.println(call + " answered " + got + ", due is " + want);
        }
    }

    static void fraction(String call, long above, long below, long wantAbove, long wantBelow) {
        due(call + ", above", above, wantAbove);
        due(call + ", below", below, wantBelow);
    }

    static LaughsLast in(String room) {
        LaughsLast x = new LaughsLast();
        type(x, room);
        return x;
    }

    static void type(LaughsLast x, String more) {
        for (int k = 0; k < more.length(); k++) {
            x.type(more.charAt(k));
        }
    }

    /** A room in which nothing else is as at first. */
    static LaughsLast busy(String room) {
        LaughsLast x = in(room);
        int[] holds = {5, 2, 9, 14};
        int[] leaves = {3, 2, 1, 0};
        for (int p = 0; p < 4; p++) {
            x.holds(p, holds[p]);
            x.leaves(p, leaves[p]);
        }
        for (int tales = 0; tales <= 4; tales++) {
            x.weight(tales, tales + 2);
        }
        x.saw(0, 9, 0, 0, 1);
        x.saw(0, 6, 3, 1, 1);
        x.saw(1, 5, 2, 1, 0);
        x.saw(3, 7, 4, 0, 1);
        for (int s = 0; s < 3; s++) {
            x.sheet(s, s, 3 + s);
            for (int i = 0; i < 3 + s; i++) {
                x.lay(s, s, i, 10 * s + i + 1);
            }
        }
        x.copy(0, 0, 1, 0, 1);
        return x;
    }

    /** All that an object tells of itself, but for the latest FINDING. It may be asked for once only, as the WAYS and SHEETS go by it. */
    static List<String> allOf(LaughsLast x) {
        List<String> all = new ArrayList<>();
        tell(all, "fault", x.fault());
        for (int what = 0; what < 8; what++) {
            tell(all, "count " + what, x.count(what));
        }
        for (int what = 0; what < 3; what++) {
            tell(all, "law " + what, x.law(what));
        }
        for (int p = 0; p < 4; p++) {
            tell(all, "tale " + p, x.tale(p));
            for (int what = 0; what < 4; what++) {
                tell(all, "person " + p + " " + what, x.person(p, what));
            }
        }
        tell(all, "digest", x.digest());
        tellSeen(all, x);
        tellSheets(all, x);
        for (int p = 0; p < 4; p++) {
            tell(all, "holds " + p, x.holds(p, 0));
            tell(all, "leaves " + p, x.leaves(p, 4));
        }
        for (int tales = 0; tales <= 4; tales++) {
            tell(all, "weight " + tales, x.weight(tales, 0));
        }
        return all;
    }

    private static void tellSeen(List<String> all, LaughsLast x) {
        for (int p = 0; p < 4; p++) {
            for (int k = 0; k < 10; k++) {
                tell(all, "off " + p + " " + k, x.off(p, k));
                tell(all, "laughs " + p + " " + k + " 0", x.laughs(p, k, 0));
                tell(all, "laughs " + p + " " + k + " 1", x.laughs(p, k, 1));
            }
        }
    }

    /** Those of a busy object have 5 items at most. */
    private static void tellSheets(List<String> all, LaughsLast x) {
        for (int s = 0; s < 4; s++) {
            for (int form = 0; form < 3; form++) {
                for (int i = 0; i < 6; i++) {
                    tell(all, "get " + s + " " + form + " " + i, x.get(s, form, i));
                }
            }
            tell(all, "lose " + s, x.lose(s));
        }
    }

    private static void tell(List<String> all, String name, long value) {
        all.add(name + ": " + value);
    }

    /** That two objects are alike in all they tell, but for the latest FINDING. */
    static void alike(String call, LaughsLast got, LaughsLast want) {
        List<String> is = allOf(got);
        List<String> asWas = allOf(want);
        checks++;
        for (int k = 0; k < is.size(); k++) {
            if (!is.get(k).equals(asWas.get(k))) {
                wrong++;
                System.out.println(call + ": then " + is.get(k) + ", due is " + asWas.get(k));
            }
        }
    }

    /** A refusal without a FINDING: it changes nothing. */
    static void refused(String call, Made made, Call asking, long answer) {
        found(call, made, asking, answer, made.make().count(8));
    }

    /** A FINDING: it changes nothing but count() 8. */
    static void found(String call, Made made, Call asking, long answer, int finding) {
        LaughsLast x = made.make();
        due(call, asking.on(x), answer);
        due(call + ": count(8)", x.count(8), finding);
        alike(call, x, made.make());
    }

    /** A call that only tells something. */
    static void changesNothing(String call, Made made, Call asking) {
        LaughsLast x = made.make();
        asking.on(x);
        due(call + " changes nothing: count(8)", x.count(8), made.make().count(8));
        alike(call + " changes nothing", x, made.make());
    }

    /** What is refused at either end of a number told as low to high. */
    static int[] outside(int low, int high) {
        return new int[] {Integer.MIN_VALUE, low - 1, high + 1, Integer.MAX_VALUE};
    }
}
