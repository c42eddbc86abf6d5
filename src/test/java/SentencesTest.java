import java.io.IOException;
import java.lang.reflect.Method;
import java.nio.file.Files;
import java.nio.file.Path;
import java.util.Arrays;
import java.util.regex.Matcher;
import java.util.regex.Pattern;

/**
 * What the tests of single sentences quote stands in the document, and nothing that the document asks for is left
 * without a test that quotes it. With an argument it prints the document, what no test quotes between [[ and ]].
 */
public final class SentencesTest {
    private static final Path DOCUMENT = Path.of("../shared/DOC.md");
    private static final Class<?>[] TESTS = {FieldEdgesTest.class, FielderEdgesTest.class, HitEdgesTest.class,
        PlaceEdgesTest.class, WayEdgesTest.class, BowlEdgesTest.class, BookEdgesTest.class, TrayEdgesTest.class,
        ThrowEdgesTest.class};
    private static int wrong = 0;

    public static void main(String[] args) throws IOException {
        String text = Files.readString(DOCUMENT).replaceAll("\\s+", " ");
        boolean[] quoted = new boolean[text.length()];
        boolean[] named = new boolean[48];
        int tests = 0;
        for (Class<?> c : TESTS) {
            for (Method m : Due.testsOf(c)) {
                tests++;
                name(m, named);
                for (String sentence : m.getAnnotation(Says.class).value()) {
                    quote(m, sentence, text, quoted);
                }
            }
        }
        for (int promise = 1; promise <= 47; promise++) {
            must(named[promise], "no test is named by promise " + promise);
        }
        if (args.length > 0) {
            print(text, quoted);
        }
        leftOut(text, quoted);
        System.out.println(tests + " tests of sentences, " + wrong + " faults");
        if (wrong != 0) {
            System.exit(1);
        }
    }

    private static void must(boolean holds, String what) {
        if (!holds) {
            wrong++;
            System.out.println(what);
        }
    }

    /** p13_..: promise 13; p13_to_19_..: 13 to 19; p28_29_..: both. */
    private static void name(Method m, boolean[] named) {
        Matcher n = Pattern.compile("p(\\d\\d)(_(to_)?(\\d\\d)(?=_))?_.*").matcher(m.getName());
        must(n.matches(), "a test without a promise: " + m.getName());
        if (n.matches()) {
            int first = Integer.parseInt(n.group(1));
            int last = n.group(4) == null ? first : Integer.parseInt(n.group(4));
            must(first >= 1 && first <= last && last <= 47, "no such promise: " + m.getName());
            for (int promise = first; promise <= last && promise <= 47; promise++) {
                named[promise] = true;
            }
        }
    }

    private static void quote(Method m, String sentence, String text, boolean[] quoted) {
        int at = text.indexOf(sentence);
        must(at >= 0, "not in the document: " + m.getName() + ": " + sentence);
        while (at >= 0) {
            Arrays.fill(quoted, at, at + sentence.length(), true);
            at = text.indexOf(sentence, at + 1);
        }
    }

    /** What stands between the heads of Terms and of Not promised, but for heads, signs and the face's own lines. */
    private static void leftOut(String text, boolean[] quoted) {
        int from = text.indexOf("## Terms") + 8;
        int to = text.indexOf("## Not promised");
        StringBuilder left = new StringBuilder();
        for (int i = from; i < to; i++) {
            left.append(quoted[i] ? '\u00a7' : text.charAt(i));
        }
        String rest = left.toString().replaceAll("```(text)?", " ")
                .replaceAll("## Promise \\d+: \\w+( \\w+){0,2}", " ").replaceAll("`[^`]*`:?", " ")
                .replaceAll("Ahead of the calls.*?the interface says: ---- [a-z ,]+\\.", " ");
        for (String part : rest.split("\u00a7+")) {
            must(!part.matches(".*[a-zA-Z].*"), "no test quotes: " + part.trim());
        }
    }

    private static void print(String text, boolean[] quoted) {
        StringBuilder b = new StringBuilder();
        for (int i = 0; i < text.length(); i++) {
            boolean before = i > 0 && !quoted[i - 1];
            if (!quoted[i] != before) {
                b.append(quoted[i] ? "]]" : "[[");
            }
            b.append(text.charAt(i));
        }
        System.out.println(b);
    }
}
