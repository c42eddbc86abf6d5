import java.io.IOException;
import java.lang.reflect.InvocationTargetException;
import java.lang.reflect.Method;
import java.lang.reflect.Modifier;
import java.nio.file.Files;
import java.nio.file.Path;
import java.util.ArrayList;
import java.util.Arrays;
import java.util.Comparator;
import java.util.HashSet;
import java.util.List;
import java.util.Random;
import java.util.Set;
import java.util.regex.Matcher;
import java.util.regex.Pattern;

/**
 * Calls with numbers from far off, in every state: what comes out is thrown by the class and not by the machine (it
 * bears a text that the class has written), and its call's face names it.
 */
public final class ExtremesTest {
    private static final int[] NUMBERS = {Integer.MIN_VALUE, Integer.MIN_VALUE + 1, -1000, -2, -1, 0, 1, 2, 3, 4, 5, 6,
        7, 8, 9, 10, 16, 17, 39, 40, 41, 50, 51, 60, 61, 99, 100, 101, 127, 128, 144, 145, 146, 288, 289, 388, 389, 9999,
        10000, 65535, 65536, 1 << 30, Integer.MAX_VALUE - 1, Integer.MAX_VALUE};
    private static final int OBJECTS = 1000;
    private static final int CALLS = 450;
    private static final Set<String> TEXTS = new HashSet<>();
    private static final List<Method> FACE = new ArrayList<>();
    private static long calls = 0;
    private static int wrong = 0;

    public static void main(String[] args) throws IOException, IllegalAccessException {
        String source = Files.readString(Path.of("src/main/java/NineOnGrass.java"));
        Matcher text = Pattern.compile("new \\w+Exception\\(\"([^\"]*)\"\\)").matcher(source);
        while (text.find()) {
            TEXTS.add(text.group(1));
        }
        for (Method m : NineOnGrass.class.getDeclaredMethods()) {
            if (Modifier.isPublic(m.getModifiers())) {
                FACE.add(m);
            }
        }
        FACE.sort(Comparator.comparing(Method::toString));
        for (int seed = 0; seed < OBJECTS && wrong < 5; seed++) {
            one(new Random(seed));
        }
        System.out.println(calls + " calls, " + wrong + " not as due");
        if (wrong != 0) {
            System.exit(1);
        }
    }

    private static void one(Random random) throws IllegalAccessException {
        NineOnGrass x = new NineOnGrass();
        Due.put(x, text(random));
        for (int i = 0; i < CALLS; i++) {
            Method m = FACE.get(random.nextInt(FACE.size()));
            if (m.getName().equals("field") && random.nextInt(8) != 0) {
                continue;
            }
            call(x, m, arguments(random, m.getParameterTypes()));
        }
    }

    private static String text(Random random) {
        StringBuilder b = new StringBuilder();
        String[] lines = {"edge " + (2 + random.nextInt(7)), "near " + random.nextInt(9), "side " + random.nextInt(10),
            "run " + (1 + random.nextInt(60)), "worth " + random.nextInt(100), "slow 20 at 127 128 145 146 147 93 110"};
        for (String line : lines) {
            b.append(random.nextInt(3) == 0 ? line + ";" : "");
        }
        for (int ball = 0; ball < 3; ball++) {
            b.append("ball ").append(ball);
            for (int hit = random.nextInt(ball == 0 ? 8 : 2); hit >= 0; hit--) {
                b.append(" way ").append(random.nextInt(16)).append(" pace ").append(1 + random.nextInt(9));
                b.append(random.nextBoolean() ? " air " + (1 + random.nextInt(8)) : "");
                b.append(" for ").append(1 + random.nextInt(99));
            }
            b.append(';');
        }
        return b.toString();
    }

    private static Object[] arguments(Random random, Class<?>[] types) {
        Object[] given = new Object[types.length];
        for (int i = 0; i < types.length; i++) {
            int number = random.nextInt(3) == 0 ? NUMBERS[random.nextInt(NUMBERS.length)] : random.nextInt(9);
            if (types[i] == boolean.class) {
                given[i] = random.nextBoolean();
            } else if (types[i] == long.class) {
                given[i] = random.nextBoolean() ? number : random.nextLong();
            } else {
                given[i] = number;
            }
        }
        return given;
    }

    private static void call(NineOnGrass x, Method m, Object[] given) throws IllegalAccessException {
        calls++;
        try {
            m.invoke(x, given);
        } catch (InvocationTargetException e) {
            Throwable thrown = e.getCause();
            boolean named = Arrays.asList(m.getExceptionTypes()).contains(thrown.getClass());
            if (!named || !TEXTS.contains(thrown.getMessage())) {
                wrong++;
                System.out.println(m.getName() + Arrays.toString(given) + " threw " + thrown);
            }
        }
    }
}
