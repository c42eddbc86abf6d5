import java.io.ByteArrayOutputStream;
import java.io.IOException;
import java.io.PrintStream;
import java.lang.reflect.Method;
import java.net.URL;
import java.net.URLClassLoader;
import java.nio.file.Files;
import java.nio.file.Path;
import java.util.Comparator;
import java.util.List;
import java.util.Map;
import java.util.TreeMap;
import java.util.regex.Matcher;
import java.util.regex.Pattern;
import java.util.stream.Stream;
import javax.tools.JavaCompiler;
import javax.tools.ToolProvider;

/** README.md: its program prints what it says; every call, every test and every part of the class stands in it. */
public final class ReadmeTest {
    private static int looked = 0;
    private static int wrong = 0;

    public static void main(String[] args) throws Exception {
        String readme = Files.readString(Path.of("README.md"));
        program(readme);
        calls(readme, Files.readString(Path.of("../shared/DOC.md")));
        names(readme);
        System.out.println(looked + " things of README.md looked at, " + wrong + " not as due");
        if (wrong != 0) {
            System.exit(1);
        }
    }

    private static void must(boolean holds, String what) {
        looked++;
        if (!holds) {
            wrong++;
            System.out.println(what);
        }
    }

    /** What stands between a line of three signs with this name behind them and the next such line. */
    private static String block(String text, String name) {
        int from = text.indexOf("```" + name + "\n");
        int to = text.indexOf("\n```", from + 4);
        must(from >= 0 && to >= 0, "no block of " + name);
        return from < 0 || to < 0 ? "" : text.substring(from + name.length() + 4, to + 1);
    }

    private static void program(String readme) throws Exception {
        Path out = Files.createTempDirectory("readme");
        try {
            Path source = Files.writeString(out.resolve("Example.java"), block(readme, "java"));
            JavaCompiler compiler = ToolProvider.getSystemJavaCompiler();
            int failed = compiler.run(null, null, null, "-nowarn", "-encoding", "UTF-8", "-cp",
                    System.getProperty("java.class.path"), "-d", out.toString(), source.toString());
            must(failed == 0, "the program doesn't compile");
            if (failed == 0) {
                String[] got = printed(out).split("\n");
                String[] due = block(readme, "text").split("\n");
                must(got.length == due.length, "the program prints " + got.length + " lines, due are " + due.length);
                for (int i = 0; i < Math.max(got.length, due.length); i++) {
                    String has = i < got.length ? got[i] : "";
                    String told = i < due.length ? due[i] : "";
                    must(has.equals(told), "the program prints \"" + has + "\", README.md tells \"" + told + "\"");
                }
            }
        } finally {
            clear(out);
        }
    }

    private static String printed(Path out) throws Exception {
        ByteArrayOutputStream bytes = new ByteArrayOutputStream();
        PrintStream before = System.out;
        try (URLClassLoader loader = new URLClassLoader(new URL[] {out.toUri().toURL()})) {
            Method main = loader.loadClass("Example").getMethod("main", String[].class);
            System.setOut(new PrintStream(bytes, true));
            main.invoke(null, (Object) new String[0]);
        } finally {
            System.setOut(before);
        }
        return bytes.toString().replace("\r", "");
    }

    private static void clear(Path out) throws IOException {
        List<Path> all;
        try (Stream<Path> files = Files.walk(out)) {
            all = files.sorted(Comparator.reverseOrder()).toList();
        }
        for (Path p : all) {
            Files.delete(p);
        }
    }

    /** A row of a table for each call of the document's face: its arguments, and the letters of its throws in turn. */
    private static void calls(String readme, String doc) {
        Map<String, String> rows = new TreeMap<>();
        Matcher row = Pattern.compile("^\\| `(\\w+\\([^`]*\\))` \\| [^|]+ \\|([ A-Z]*)\\|$", Pattern.MULTILINE).matcher(readme);
        while (row.find()) {
            must(rows.put(row.group(1), row.group(2).trim()) == null, "twice in README.md: " + row.group(1));
        }
        String face = block(doc, "java");
        Matcher call = Pattern.compile("^ {4}public \\w+ (\\w+)\\(([^)]*)\\)( throws ([^;]*))?;", Pattern.MULTILINE).matcher(face);
        int many = 0;
        while (call.find()) {
            many++;
            String name = call.group(1) + "(" + call.group(2).replaceAll("\\w+ (\\w+)", "$1") + ")";
            String told = rows.remove(name);
            String due = call.group(4) == null ? "" : letters(call.group(4));
            must(due.equals(told), name + " throws " + due + ", README.md tells " + told);
        }
        must(many == 46, "the document has " + many + " calls");
        must(rows.isEmpty(), "no calls of the document: " + rows.keySet());
    }

    private static String letters(String thrown) {
        return thrown.replace("NoSuchElementException", "N").replace("IllegalArgumentException", "A")
                .replace("IllegalStateException", "S").replace("IndexOutOfBoundsException", "X").replace(",", "");
    }

    private static void names(String readme) throws IOException {
        for (Class<?> part : NineOnGrass.class.getDeclaredClasses()) {
            String name = part.getSimpleName();
            must(readme.contains("`" + name + "`"), "README.md doesn't tell what " + name + " is");
        }
        try (Stream<Path> files = Files.list(Path.of("src/test/java"))) {
            for (Path p : files.toList()) {
                String name = p.getFileName().toString().replace(".java", "");
                must(!name.endsWith("Test") || readme.contains("`" + name + "`"), "README.md doesn't name " + name);
            }
        }
        Matcher named = Pattern.compile("`(\\w+Test)`").matcher(readme);
        while (named.find()) {
            must(Files.exists(Path.of("src/test/java", named.group(1) + ".java")), "README.md names " + named.group(1));
        }
    }
}
