import java.io.IOException;
import java.nio.file.DirectoryStream;
import java.nio.file.Files;
import java.nio.file.Path;
import java.util.LinkedHashMap;
import java.util.Map;
import java.util.regex.Matcher;
import java.util.regex.Pattern;

/**
 * The remarks of the tests of boundary cases: each test has one, each remark
 * quotes the document at the place that it names, and together they leave out
 * no sentence of the Terms and the promises.
 */
public final class RemarksTest {
    private static final Pattern TEST = Pattern.compile("(/\\*\\*((?:(?!\\*/).)*)\\*/\\s*)?static void (\\w+)\\(\\)", Pattern.DOTALL);
    private static final Pattern PLACE_OR_QUOTE = Pattern.compile("(Terms \\d|Promise \\d+|What it is|The public face):|\"([^\"]*)\"");
    private static int wrong = 0;

    public static void main(String[] args) throws IOException {
        Map<String, String> document = placesOf(oneLine(Files.readString(Path.of("../shared/DOC.md"))));
        Map<String, String> left = new LinkedHashMap<>(document);
        int tests = 0;
        try (DirectoryStream<Path> files = Files.newDirectoryStream(Path.of("src/test/java"), "*EdgesTest.java")) {
            for (Path file : files) {
                Matcher test = TEST.matcher(Files.readString(file));
                while (test.find()) {
                    tests++;
                    compare(file.getFileName() + " " + test.group(3), test.group(2), document, left);
                }
            }
        }
        for (String place : left.keySet()) {
            String rest = left.get(place).replaceAll("[^A-Za-z0-9]+", " ").trim();
            hold(place.equals("What it is") || place.equals("The public face") || rest.isEmpty(), place + ": no remark quotes: " + left.get(place));
        }
        hold(document.size() == 44 && tests > 80, document.size() + " places, " + tests + " tests");
        System.out.println("remarks: " + tests + " tests, " + wrong + " wrong");
        if (wrong != 0) {
            System.exit(1);
        }
    }

    private static void hold(boolean well, String what) {
        if (!well) {
            wrong++;
            System.out.println(what);
        }
    }

    private static String oneLine(String text) {
        return text.replaceAll("\\s+", " ");
    }

    private static Map<String, String> placesOf(String document) {
        Map<String, String> places = new LinkedHashMap<>();
        places.put("What it is", between(document, "## What it is ", " ## The public face"));
        places.put("The public face", between(document, " ## The public face ", " ## Terms"));
        for (int k = 1; k <= 3; k++) {
            places.put("Terms " + k, between(document, "======== " + k + " ", k < 3 ? "======== " + (k + 1) : "Ahead of the calls").replace("```text", "").replace("```", ""));
        }
        for (int k = 1; k <= 39; k++) {
            String promise = between(document, "## Promise " + k + ": ", k < 39 ? "## Promise " + (k + 1) + ": " : "## Not promised");
            places.put("Promise " + k, promise.substring(promise.indexOf("`: ") + 3));
        }
        return places;
    }

    private static String between(String text, String begin, String end) {
        int from = text.indexOf(begin) + begin.length();
        return text.substring(from, text.indexOf(end, from));
    }

    private static void compare(String test, String remark, Map<String, String> document, Map<String, String> left) {
        hold(remark != null, test + " has no remark");
        if (remark == null) {
            return;
        }
        String place = "";
        int quotes = 0;
        Matcher m = PLACE_OR_QUOTE.matcher(oneLine(remark.replaceAll("\n *\\*", " ")));
        while (m.find()) {
            if (m.group(1) != null) {
                place = m.group(1);
                continue;
            }
            String quote = m.group(2);
            quotes++;
            boolean stands = document.containsKey(place) && document.get(place).contains(quote);
            hold(stands, test + ": " + place + " does not say \"" + quote + "\"");
            if (stands) {
                left.put(place, struck(left.get(place), document.get(place), quote));
            }
        }
        hold(quotes > 0, test + " quotes nothing");
    }

    /** What was struck already stays so, and the quote with it, by the places in the whole. */
    private static String struck(String left, String whole, String quote) {
        StringBuilder now = new StringBuilder(left);
        for (int at = whole.indexOf(quote); at >= 0; at = whole.indexOf(quote, at + 1)) {
            for (int k = 0; k < quote.length(); k++) {
                now.setCharAt(at + k, ' ');
            }
        }
        return now.toString();
    }
}
