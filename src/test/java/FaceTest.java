import java.io.IOException;
import java.lang.reflect.Constructor;
import java.lang.reflect.Field;
import java.lang.reflect.Method;
import java.lang.reflect.Modifier;
import java.nio.file.Files;
import java.nio.file.Path;
import java.util.TreeSet;
import java.util.regex.Matcher;
import java.util.regex.Pattern;

/** The face of the class to the letter of the document. */
public final class FaceTest {
    private static final Path DOCUMENT = Path.of("../shared/DOC.md");
    private static int wrong = 0;

    public static void main(String[] args) throws IOException, IllegalAccessException {
        face();
        insides();
        System.out.println(wrong == 0 ? "the face is as due" : wrong + " faults");
        if (wrong != 0) {
            System.exit(1);
        }
    }

    private static void must(boolean holds, String what) {
        if (!holds) {
            wrong++;
            System.out.println(what);
        }
    }

    private static void face() throws IOException {
        TreeSet<String> due = new TreeSet<>();
        String doc = Files.readString(DOCUMENT);
        String block = doc.substring(doc.indexOf("```java") + 7, doc.indexOf("```", doc.indexOf("```java") + 7));
        Matcher m = Pattern.compile("^    public ([a-z].*\\)[^;{]*);", Pattern.MULTILINE).matcher(block);
        while (m.find()) {
            due.add(m.group(1).replaceAll(" (a|b|c|d|e|f|i|n|v|w|[a-z]{2,})([,)])", "$2"));
        }
        due.removeIf(s -> s.startsWith("NineOnGrass("));
        TreeSet<String> got = new TreeSet<>();
        for (Method method : NineOnGrass.class.getDeclaredMethods()) {
            if (Modifier.isPrivate(method.getModifiers())) {
                continue;
            }
            must(Modifier.isPublic(method.getModifiers()), "not private, not public: " + method);
            must(!Modifier.isStatic(method.getModifiers()), "static: " + method);
            got.add(told(method));
        }
        must(due.size() == 46, "the document has " + due.size() + " calls");
        must(due.equals(got), "the face: due is " + due + "\ngot " + got);
    }

    private static String told(Method m) {
        StringBuilder b = new StringBuilder(m.getReturnType().getSimpleName()).append(' ').append(m.getName()).append('(');
        for (Class<?> type : m.getParameterTypes()) {
            b.append(b.charAt(b.length() - 1) == '(' ? "" : ", ").append(type.getSimpleName());
        }
        b.append(')');
        String before = " throws ";
        for (Class<?> type : m.getExceptionTypes()) {
            b.append(before).append(type.getSimpleName());
            before = ", ";
        }
        return b.toString();
    }

    private static void insides() throws IllegalAccessException {
        Class<?> face = NineOnGrass.class;
        must(Modifier.isPublic(face.getModifiers()) && Modifier.isFinal(face.getModifiers()), "public and final");
        must(face.getPackageName().isEmpty(), "no package");
        for (Constructor<?> c : face.getDeclaredConstructors()) {
            must(Modifier.isPublic(c.getModifiers()) && c.getParameterCount() == 0, "constructor: " + c);
        }
        int constants = 0;
        for (Field f : face.getDeclaredFields()) {
            if (!Modifier.isPrivate(f.getModifiers())) {
                constants++;
                must(f.toString().equals("public static final int NineOnGrass.NONE") && f.getInt(null) == -1,
                        "seen from outside: " + f);
            }
        }
        must(constants == 1, "so many constants: " + constants);
    }
}
