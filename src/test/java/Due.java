import java.lang.reflect.InvocationTargetException;
import java.lang.reflect.Method;
import java.util.ArrayList;
import java.util.Comparator;
import java.util.List;
import java.util.NoSuchElementException;

/**
 * What the tests of single sentences share. Each such test is a static method that quotes its sentence (Says);
 * its name begins with the promise's number.
 */
abstract class Due {
    static final int NONE = NineOnGrass.NONE;
    static final int LEAST = Integer.MIN_VALUE;
    static final int GREATEST = Integer.MAX_VALUE;
    static final Class<?> NO_SUCH = NoSuchElementException.class;
    static final Class<?> BAD = IllegalArgumentException.class;
    static final Class<?> ILL = IllegalStateException.class;
    static final Class<?> OUTSIDE = IndexOutOfBoundsException.class;

    /** No such BALL, no such WAY .. : one below, one above, and far off. */
    static final int[] NO_BALLS = {-1, 6, LEAST, GREATEST};
    static final int[] NO_FIELDERS = {-1, 9, LEAST, GREATEST};
    static final int[] NO_WAYS = {-1, 4, LEAST, GREATEST};
    static final int[] NO_TRAYS = {-1, 4, LEAST, GREATEST};
    static final int[] NO_IMAGES = {-1, 3, LEAST, GREATEST};

    private static String test = "";
    private static int looked = 0;
    private static int wrong = 0;

    interface Call {
        void now();
    }

    static List<Method> testsOf(Class<?> tests) {
        List<Method> all = new ArrayList<>();
        for (Method m : tests.getDeclaredMethods()) {
            if (m.getAnnotation(Says.class) != null) {
                all.add(m);
            }
        }
        all.sort(Comparator.comparing(Method::getName));
        return all;
    }

    /** Runs every test of a class; ends the program with 1 if an answer wasn't the one that is due. */
    static void run(Class<?> tests) {
        List<Method> all = testsOf(tests);
        for (Method m : all) {
            test = m.getName();
            try {
                m.setAccessible(true);
                m.invoke(null);
            } catch (InvocationTargetException e) {
                wrong++;
                System.out.println(test + ": threw " + e.getCause());
            } catch (IllegalAccessException e) {
                throw new IllegalStateException(e);
            }
        }
        System.out.println(all.size() + " tests, " + looked + " answers looked at, " + wrong + " not as due");
        if (wrong != 0) {
            System.exit(1);
        }
    }

    static void due(String call, long got, long want) {
        looked++;
        if (got != want) {
            wrong++;
            System.out.println(test + ": " + call + " answered " + got + ", due is " + want);
        }
    }

    static void due(String call, boolean got, boolean want) {
        due(call, got ? 1 : 0, want ? 1 : 0);
    }

    static void due(String call, String got, String want) {
        looked++;
        if (!got.equals(want)) {
            wrong++;
            System.out.println(test + ": " + call + " answered\n  " + got + ", due is\n  " + want);
        }
    }

    static void refused(String call, Class<?> why, Call it) {
        looked++;
        Class<?> got = thrownBy(it);
        if (got != why) {
            wrong++;
            System.out.println(test + ": " + call + " threw " + got + ", due is " + why);
        }
    }

    static Class<?> thrownBy(Call it) {
        try {
            it.now();
            return null;
        } catch (RuntimeException e) {
            return e.getClass();
        }
    }

    /** The answer of a call that tells a FRACTION, and its two numbers. */
    static void fraction(String call, NineOnGrass x, boolean told, long up, long low) {
        due(call, told, true);
        due(call + ": upper", x.upper(), up);
        due(call + ": lower", x.lower(), low);
    }

    static void noFraction(String call, NineOnGrass x, boolean told) {
        due(call, told, false);
        due(call + ": upper", x.upper(), 0);
        due(call + ": lower", x.lower(), 0);
    }

    /** The CELL so far east and south of the BAT. */
    static int at(int east, int south) {
        return 144 + 17 * south + east;
    }

    /** Lays a text on the tape, blanks behind it. */
    static void lay(NineOnGrass x, String text) {
        StringBuilder b = new StringBuilder(text);
        while (b.length() % 20 != 0) {
            b.append(' ');
        }
        for (int i = 0; i < b.length(); i += 20) {
            x.feed(four(b, i), four(b, i + 4), four(b, i + 8), four(b, i + 12), four(b, i + 16));
        }
    }

    private static int four(StringBuilder b, int i) {
        return b.charAt(i) << 24 | b.charAt(i + 1) << 16 | b.charAt(i + 2) << 8 | b.charAt(i + 3);
    }

    static int put(NineOnGrass x, String text) {
        lay(x, text);
        return x.field(text.length());
    }

    /** A new object with THE FIELD of a text, and FIELDERS 0, 1, .. on these CELLS. */
    static NineOnGrass on(String text, int... stands) {
        NineOnGrass x = new NineOnGrass();
        int lines = put(x, text);
        due("field: " + text, lines >= 0, true);
        for (int f = 0; f < stands.length; f++) {
            x.stand(f, stands[f]);
        }
        return x;
    }

    static void fault(String text, int kind, int place) {
        NineOnGrass x = new NineOnGrass();
        due("field: " + text, put(x, text), -10 - kind);
        due("fault(0): " + text, x.fault(0), kind);
        due("fault(1): " + text, x.fault(1), place);
    }

    static void row(NineOnGrass x, int tray, int sort, long... numbers) {
        x.tray(tray, sort, numbers.length);
        for (int i = 0; i < numbers.length; i++) {
            x.write(tray, i, numbers[i]);
        }
    }

    static void stands(String what, NineOnGrass x, int... want) {
        for (int f = 0; f < want.length; f++) {
            due(what + ": STAND of " + f, x.of(f, 0), want[f]);
        }
    }

    static void counts(String what, NineOnGrass x, int first, int... want) {
        for (int i = 0; i < want.length; i++) {
            due(what + ": count(" + (first + i) + ")", x.count(first + i), want[i]);
        }
    }

    /** CATCHER, CATCH, who stops, at which step, RUNS, COST. */
    static void outcome(String what, NineOnGrass x, int hit, int... want) {
        due(what + ": catcher", x.catcher(0, hit), want[0]);
        due(what + ": caught", x.caught(0, hit), want[1]);
        due(what + ": stopper", x.stopper(0, hit), want[2]);
        due(what + ": stops", x.stops(0, hit), want[3]);
        due(what + ": runs", x.runs(0, hit), want[4]);
        due(what + ": cost", x.cost(0, hit), want[5]);
    }
}
