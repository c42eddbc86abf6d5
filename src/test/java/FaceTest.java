import java.io.IOException;
import java.lang.reflect.Constructor;
import java.lang.reflect.Field;
import java.lang.reflect.Method;
import java.lang.reflect.Modifier;
import java.nio.file.Files;
import java.nio.file.Path;
import java.util.ArrayList;
import java.util.Arrays;
import java.util.List;
import java.util.TreeSet;
import java.util.regex.Matcher;
import java.util.regex.Pattern;

/** The face of the class to the letter of the document, and what a machine can see of the language's rules. */
public final class FaceTest {
    private static final Path SOURCE = Path.of("src/main/java/NineOnGrass.java");
    private static final Path DOCUMENT = Path.of("../shared/DOC.md");
    private static int wrong = 0;

    public static void main(String[] args) throws IOException {
        face();
        insides();
        source();
        System.out.println(wrong == 0 ? "the face is as due" : wrong + " faults");
        if (wrong != 0) {
            System.exit(1);
        }
    }

    private static void must(boolean holds, String what) {
        if (!holds) {
            wrong++;
            System.out.println(what);
        }
    }

    private static void face() throws IOException {
        TreeSet<String> due = new TreeSet<>();
        String doc = Files.readString(DOCUMENT);
        String block = doc.substring(doc.indexOf("```java") + 7, doc.indexOf("```", doc.indexOf("```java") + 7));
        Matcher m = Pattern.compile("^    public ([a-z].*\\)[^;{]*);", Pattern.MULTILINE).matcher(block);
        while (m.find()) {
            due.add(m.group(1).replaceAll(" (a|b|c|d|e|f|i|n|v|w|[a-z]{2,})([,)])", "$2"));
        }
        due.removeIf(s -> s.startsWith("NineOnGrass("));
        TreeSet<String> got = new TreeSet<>();
        for (Method method : NineOnGrass.class.getDeclaredMethods()) {
            if (Modifier.isPrivate(method.getModifiers())) {
                continue;
            }
            must(Modifier.isPublic(method.getModifiers()), "not private, not public: " + method);
            must(!Modifier.isStatic(method.getModifiers()), "static: " + method);
            got.add(told(method));
        }
        must(due.size() == 46, "the document has " + due.size() + " calls");
        must(due.equals(got), "the face: due is " + due + "\ngot " + got);
    }

    private static String told(Method m) {
        StringBuilder b = new StringBuilder(m.getReturnType().getSimpleName()).append(' ').append(m.getName()).append('(');
        for (Class<?> type : m.getParameterTypes()) {
            b.append(b.charAt(b.length() - 1) == '(' ? "" : ", ").append(type.getSimpleName());
        }
        b.append(')');
        String before = " throws ";
        for (Class<?> type : m.getExceptionTypes()) {
            b.append(before).append(type.getSimpleName());
            before = ", ";
        }
        return b.toString();
    }

    private static void insides() {
        Class<?> face = NineOnGrass.class;
        must(Modifier.isPublic(face.getModifiers()) && Modifier.isFinal(face.getModifiers()), "public and final");
        must(face.getPackageName().isEmpty(), "no package");
        for (Constructor<?> c : face.getDeclaredConstructors()) {
            must(Modifier.isPublic(c.getModifiers()) && c.getParameterCount() == 0, "constructor: " + c);
        }
        List<Class<?>> all = new ArrayList<>(List.of(face));
        all.addAll(Arrays.asList(face.getDeclaredClasses()));
        must(all.size() <= 12, "so many classes: " + all.size());
        for (Class<?> c : all) {
            must(c == face || Modifier.isStatic(c.getModifiers()), "not static: " + c);
            must(c == face || !Modifier.isPublic(c.getModifiers()), "public: " + c);
            must(c == face || c.getDeclaredClasses().length == 0, "deeper classes: " + c);
            int own = 0;
            for (Field f : c.getDeclaredFields()) {
                boolean constant = Modifier.isStatic(f.getModifiers());
                own += constant ? 0 : 1;
                must(!constant || Modifier.isFinal(f.getModifiers()), "static and not final: " + f);
                boolean open = !Modifier.isPrivate(f.getModifiers());
                must(c != face || !open || f.getName().equals("NONE"), "seen from outside: " + f);
            }
            must(own <= 20, "so many fields: " + c + " " + own);
            for (Method m : c.getDeclaredMethods()) {
                must(m.getParameterCount() <= 7, "parameters: " + m);
                must(!m.getName().startsWith("lambda$"), "a lambda: " + m);
            }
        }
    }

    private static void source() throws IOException {
        String text = Files.readString(SOURCE);
        for (char c : text.toCharArray()) {
            must(c == '\n' || c >= 32 && c < 127, "a sign " + (int) c);
        }
        String code = text.replaceAll("(?s)/\\*.*?\\*/", "").replaceAll("//[^\n]*", "").replaceAll("\"[^\"\n]*\"", "\"\"");
        String[] never = {"\\) *->", "[a-z] *-> *[a-z]", "::", "Exact\\(", "\\bfinally\\b", "synchronized", "\\bassert\\b",
            "hashCode", "\\bstatic *\\{", "Thread", "nanoTime", "currentTime", "Random", "\\bprintln\\b", "getMessage",
            "\\bprotected\\b", "catch *\\([^)]*\\b(ArrayIndexOutOfBounds|NullPointer|Arithmetic|ClassCast|NegativeArraySize|"
            + "ArrayStore|IndexOutOfBounds|Runtime)?Exception\\b", "catch *\\([^)]*(Throwable|Error)\\b"};
        for (String n : never) {
            Matcher m = Pattern.compile(n).matcher(code);
            must(!m.find(), "in the source: " + n);
        }
        Matcher imports = Pattern.compile("^import (.*);", Pattern.MULTILINE).matcher(code);
        while (imports.find()) {
            must(List.of("java.util.Arrays", "java.util.NoSuchElementException").contains(imports.group(1)),
                    "import " + imports.group(1));
        }
        lengths(text.split("\n", -1));
    }

    /** A method goes from a line that ends with an opening brace to its closing brace, as far in. */
    private static void lengths(String[] lines) {
        Pattern head = Pattern.compile("( {4}| {8})(public |private |static |final )*[A-Za-z\\[\\]]+ ?[A-Za-z]*\\(.*\\{");
        for (int i = 0; i < lines.length; i++) {
            Matcher m = head.matcher(lines[i]);
            if (!m.matches()) {
                continue;
            }
            int end = i;
            while (end < lines.length && !lines[end].equals(m.group(1) + "}")) {
                end++;
            }
            must(end - i <= 60, "line " + (i + 1) + ": a method of " + (end - i) + " lines");
        }
    }
}
