import java.lang.reflect.Method;
import java.nio.file.Files;
import java.nio.file.Path;
import java.util.regex.Matcher;
import java.util.regex.Pattern;

/** README.md: each call in its examples answers what stands behind it, and each call that it names is one of the face. */
public final class ReadmeTest {
    private static final Pattern ROOM = Pattern.compile("\"([^\"]*)\"\\.toCharArray");
    private static final Pattern CALL = Pattern.compile("(?m)^x\\.(\\w+)\\(([^)]*)\\);\\s*// (-?\\d+)");
    private static int wrong = 0;

    public static void main(String[] args) throws Exception {
        String readme = Files.readString(Path.of("README.md"));
        examples(readme);
        refusals(readme);
        System.out.println("README.md: " + wrong + " wrong");
        if (wrong != 0) {
            System.exit(1);
        }
    }

    private static void due(String what, long got, long want) {
        if (got != want) {
            wrong++;
            System.out.println(what + " answered " + got + ", README.md says " + want);
        }
    }

    private static void examples(String readme) throws Exception {
        LaughsLast x = new LaughsLast();
        Matcher room = ROOM.matcher(readme);
        due("rooms in the example", room.find() ? 1 : 0, 1);
        for (char c : room.group(1).toCharArray()) {
            x.type(c);
        }
        int calls = 0;
        Matcher call = CALL.matcher(readme);
        while (call.find()) {
            calls++;
            due("x." + call.group(1) + "(" + call.group(2) + ")", ask(x, call.group(1), call.group(2)), Long.parseLong(call.group(3)));
        }
        due("calls with an answer", calls, readme.split("(?m)^x\\.", -1).length - 1);
        due("there are some twenty", calls >= 20 ? 1 : 0, 1);
    }

    private static long ask(LaughsLast x, String name, String arguments) throws Exception {
        for (Method m : LaughsLast.class.getDeclaredMethods()) {
            if (m.getName().equals(name)) {
                String[] told = arguments.isEmpty() ? new String[0] : arguments.split(", *");
                Object[] given = new Object[told.length];
                for (int k = 0; k < told.length; k++) {
                    given[k] = told[k].equals("LaughsLast.NONE") ? LaughsLast.NONE : Integer.parseInt(told[k]);
                }
                return ((Number) m.invoke(x, given)).longValue();
            }
        }
        throw new IllegalStateException("README.md calls " + name);
    }

    /** The table of refusals, by calls that are refused so. */
    private static void refusals(String readme) {
        LaughsLast x = new LaughsLast();
        for (char c : "p1111;p1111;p1111;p1111".toCharArray()) {
            x.type(c);
        }
        row(readme, "`BAD`", x.person(4, 0), x.amount(4, 0));
        row(readme, "`NOT`", x.edge(0), x.two(0));
        for (int k = 0; k < 60; k++) {
            x.saw(0, 0, 0, 0, 0);
        }
        row(readme, "`FULL`", x.saw(0, 0, 0, 0, 0), x.hire(0, 1, 0));
        x.sheet(0, 0, 1);
        x.sheet(1, 1, 1);
        int[] found = {x.lose(3), x.lay(0, 0, 1, 0), x.lay(0, 1, 0, 0), x.copy(0, 0, 1, 0, 1), x.sheet(0, 0, -1)};
        String[] names = {"NULL", "INDEX", "CAST", "STORE", "SIZE"};
        for (int k = 0; k < 5; k++) {
            row(readme, "finding " + (k + 1) + ", " + names[k], found[k], 0);
        }
        due("BAD by the least long", Long.MIN_VALUE - LaughsLast.BAD, x.amount(4, 0));
    }

    /** 0: never a long. */
    private static void row(String readme, String told, int asInt, long asLong) {
        String begin = "| " + told + " |";
        String end = " | " + asInt + " | " + (asLong == 0 ? "never" : asLong) + " |";
        boolean stands = false;
        for (String line : readme.split("\n")) {
            stands |= line.startsWith(begin) && line.endsWith(end);
        }
        due("a row " + begin + " .." + end, stands ? 1 : 0, 1);
    }
}
