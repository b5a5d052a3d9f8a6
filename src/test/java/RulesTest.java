import com.sun.management.ThreadMXBean;
import java.lang.management.ManagementFactory;
import java.lang.reflect.Field;
import java.lang.reflect.Method;
import java.lang.reflect.Modifier;
import java.nio.file.Files;
import java.nio.file.Path;
import java.util.ArrayList;
import java.util.Arrays;
import java.util.HashSet;
import java.util.List;
import java.util.Random;
import java.util.Set;
import java.util.TreeSet;
import java.util.regex.Matcher;
import java.util.regex.Pattern;

/**
 * What LANGUAGE.md asks, as far as a test can tell: the face, words that must
 * not stand in the source, that nothing is ever thrown whatever is asked, and
 * that calls make no objects.
 */
public final class RulesTest {
    private static final String FACE =
        "int type(int);int wipe();int fault();int person(int,int);int tale(int);int law(int);int holds(int,int);"
        + "int leaves(int,int);int quarters(int,int);long owes(int,int,int);long amount(int,int);long cost(int,int);"
        + "long best(int,int);int rest(int,int);int order(int,int);int among(int);long hire(int,int,int);"
        + "long other(int,int,int,int);int lawFor(int);int edge(int);int weight(int,int);long early(int,int);"
        + "long two(int);int made(int);int evenings(int,int,int);int saw(int,int,int,int,int);int read(int,int);"
        + "int off(int,int);int guess(int);int laughs(int,int,int);int sheet(int,int,int);int lose(int);"
        + "int lay(int,int,int,int);int get(int,int,int);int copy(int,int,int,int,int);int write(int,int);"
        + "int count(int);long digest()";
    private static int wrong = 0;

    public static void main(String[] args) throws Exception {
        face();
        classes();
        source();
        anyArguments();
        objects();
        System.out.println("rules: " + wrong + " wrong");
        if (wrong != 0) {
            System.exit(1);
        }
    }

    private static void hold(boolean well, String what) {
        if (!well) {
            wrong++;
            System.out.println(what);
        }
    }

    private static void face() throws Exception {
        Set<String> methods = new TreeSet<>();
        for (Method m : LaughsLast.class.getDeclaredMethods()) {
            if (!Modifier.isPrivate(m.getModifiers())) {
                StringBuilder told = new StringBuilder(m.getReturnType() + " " + m.getName() + "(");
                for (Class<?> c : m.getParameterTypes()) {
                    told.append(told.charAt(told.length() - 1) == '(' ? "" : ",").append(c);
                }
                methods.add(told + ")");
                hold(Modifier.isPublic(m.getModifiers()) && !Modifier.isStatic(m.getModifiers()), "not of the face: " + m);
            }
        }
        hold(methods.equals(new TreeSet<>(Arrays.asList(FACE.split(";")))), "the face is " + methods);
        hold(faceOfTheDocument().equals(methods), "the document's face is " + faceOfTheDocument());
        Set<String> fields = new TreeSet<>();
        for (Field f : LaughsLast.class.getDeclaredFields()) {
            if (!Modifier.isPrivate(f.getModifiers())) {
                fields.add(f.getName() + f.getInt(null));
            }
        }
        hold(fields.equals(new TreeSet<>(List.of("NONE-1", "BAD-2", "NOT-3", "FULL-4"))), "the constants are " + fields);
        hold(LaughsLast.class.getConstructors().length == 1, "one public constructor");
        hold(Modifier.isFinal(LaughsLast.class.getModifiers()), "final");
    }

    /** From DOC.md, where each method must stand in the source as it stands there, with the names of its parameters. */
    private static Set<String> faceOfTheDocument() throws Exception {
        String document = Files.readString(Path.of("../shared/DOC.md"));
        String source = Files.readString(Path.of("src/main/java/LaughsLast.java"));
        int begin = document.indexOf("```java");
        Set<String> methods = new TreeSet<>();
        for (String line : document.substring(begin, document.indexOf("```", begin + 3)).split("\n")) {
            if (!line.startsWith("    ")) {
                continue;
            }
            boolean isMethod = line.matches(" +public (int|long) .*\\);");
            String asTold = isMethod || line.contains("(") ? line.replace(";", " {") : line;
            hold(source.contains("\n" + asTold + "\n"), "the source has no line '" + asTold + "'");
            if (isMethod) {
                methods.add(line.trim().replace("public ", "").replaceAll("(int|long) \\w+(?=[,)])", "$1").replace(", ", ",").replace(";", ""));
            }
        }
        return methods;
    }

    /** Rules 1, 2, 5 and 11, of the classes inside, too. */
    private static void classes() throws Exception {
        List<Class<?>> all = new ArrayList<>(List.of(LaughsLast.class.getDeclaredClasses()));
        for (Class<?> c : all) {
            hold(Modifier.isStatic(c.getModifiers()) && !Modifier.isPublic(c.getModifiers()), "not static, or open: " + c);
            hold(c.getDeclaredClasses().length == 0, "a class inside a class inside: " + c);
        }
        all.add(LaughsLast.class);
        hold(all.size() > 5 && all.size() <= 12, "classes: " + all.size());
        Set<Class<?>> constants = Set.of(int.class, long.class, boolean.class, char.class, String.class, int[].class, long[].class,
            char[].class, byte[].class);
        for (Class<?> c : all) {
            int fields = 0;
            for (Field f : c.getDeclaredFields()) {
                boolean isConstant = Modifier.isFinal(f.getModifiers()) && constants.contains(f.getType());
                hold(!Modifier.isStatic(f.getModifiers()) || isConstant, "static, but no constant: " + f);
                fields += Modifier.isStatic(f.getModifiers()) ? 0 : 1;
            }
            hold(fields <= 20, "fields of " + c + ": " + fields);
        }
    }

    private static void source() throws Exception {
        String text = Files.readString(Path.of("src/main/java/LaughsLast.java"));
        String code = text.replaceAll("(?s)/\\*.*?\\*/", "").replaceAll("//[^\n]*", "");
        String[] banned = {"throw", "throws", "try", "catch", "finally", "synchronized", "assert", "import", "package", "->", "::",
            "Object", "Exact", "protected", "@", "volatile", "native", "MIN_VALUE", "MAX_VALUE", "\""};
        for (String word : banned) {
            String edge = Character.isLetter(word.charAt(0)) && !word.equals("Exact") && !word.contains("_") ? "\\b" : "";
            hold(!Pattern.compile(edge + Pattern.quote(word) + edge).matcher(code).find(), "the source has " + word);
        }
        for (int k = 0; k < text.length(); k++) {
            hold(text.charAt(k) < 128, "a sign above 127 at " + k);
        }
        Set<String> open = new HashSet<>();
        for (String told : FACE.split(";")) {
            open.add(told.substring(told.indexOf(' ') + 1, told.indexOf('(')));
        }
        Matcher m = Pattern.compile("(?m)^ +(?:private |static |final )*(?:int|long|boolean|void|Share) (\\w+)\\(([^)]*)\\) \\{").matcher(code);
        List<Integer> begins = new ArrayList<>();
        while (m.find()) {
            hold(!open.contains(m.group(1)), "a private method bears a public name: " + m.group(1));
            hold(m.group(2).split(",").length <= 7, "more than seven parameters: " + m.group(1));
            begins.add(m.start());
        }
        hold(begins.size() > 50, "methods found: " + begins.size());
        for (int begin : begins) {
            int lines = code.substring(begin, endOfMethod(code, begin)).split("\n").length;
            hold(lines <= 60, "a method of " + lines + " lines at " + code.substring(begin, code.indexOf('{', begin)).trim());
        }
    }

    private static int endOfMethod(String code, int begin) {
        int open = 0;
        for (int at = code.indexOf('{', begin); at < code.length(); at++) {
            open += code.charAt(at) == '{' ? 1 : code.charAt(at) == '}' ? -1 : 0;
            if (open == 0) {
                return at;
            }
        }
        return code.length();
    }

    private static void anyArguments() throws Exception {
        int[] odd = {Integer.MIN_VALUE, Integer.MIN_VALUE + 1, -100, -5, -1, 4, 5, 9, 10, 16, 59, 60, 61, 200, 255, 256,
            Integer.MAX_VALUE - 1, Integer.MAX_VALUE};
        List<Method> methods = new ArrayList<>();
        for (Method m : LaughsLast.class.getDeclaredMethods()) {
            if (Modifier.isPublic(m.getModifiers())) {
                methods.add(m);
            }
        }
        methods.sort((a, b) -> a.getName().compareTo(b.getName()));
        Random random = new Random(4);
        String signs = "ptlmo;0123456789";
        for (int run = 0; run < 300; run++) {
            LaughsLast x = new LaughsLast();
            String room = new String[] {"", "p9219;p8111;p7000;p9329;t9;t8;t7;t6;l2;m2;o3", "p9999;t9", "p9119;p9219;t5;t6;l1;m1;o1",
                "t1;t2", "p9999;p9999;p9999;t9;t9;t9;t9;l2"}[run % 6];
            for (char c : room.toCharArray()) {
                x.type(c);
            }
            for (int call = 0; call < 512; call++) {
                Method m = methods.get(random.nextInt(methods.size()));
                Object[] given = new Object[m.getParameterCount()];
                for (int k = 0; k < given.length; k++) {
                    given[k] = random.nextInt(5) == 0 ? odd[random.nextInt(odd.length)] : random.nextInt(5);
                }
                if (m.getName().equals("type")) {
                    given[0] = (int) signs.charAt(random.nextInt(signs.length()));
                }
                boolean rare = m.getName().equals("wipe") || m.getName().equals("type") || m.getName().equals("digest");
                if (rare && random.nextInt(8) > 0) {
                    continue;
                }
                try {
                    m.invoke(x, given);
                } catch (ReflectiveOperationException thrown) {
                    hold(false, m.getName() + Arrays.toString(given) + " threw " + thrown.getCause());
                }
            }
        }
    }

    private static void objects() {
        LaughsLast x = new LaughsLast();
        for (char c : "p7127;p6112;p8001;p9339;t4;t5;t6;t7;l2;m2;o1".toCharArray()) {
            x.type(c);
        }
        x.digest();
        ThreadMXBean bean = (ThreadMXBean) ManagementFactory.getThreadMXBean();
        long id = Thread.currentThread().getId();
        long before = bean.getThreadAllocatedBytes(id);
        for (int k = 0; k < 100; k++) {
            x.digest();
            x.sheet(k % 4, 2, 60);
            x.copy(0, 0, 0, 1, k % 4);
            x.read(k % 4, 1);
            x.write(0, k % 4);
            x.hire(0, 5, 0);
        }
        long made = bean.getThreadAllocatedBytes(id) - before;
        hold(made < 100000, "100 rounds of calls made " + made + " bytes of objects");
    }
}
