import java.lang.reflect.InvocationTargetException;
import java.lang.reflect.Method;
import java.util.ArrayList;
import java.util.Arrays;
import java.util.Comparator;
import java.util.List;
import java.util.Random;

/** Random runs of calls on NineOnGrass beside PlainModel: every answer and every throw must be alike. */
public final class ModelTest {
    private static final int[] EDGES = {Integer.MIN_VALUE, -2, -1, 0, 1, 2, 3, 4, 5, 6, 7, 8, 9, 10, 17, 40, 41, 50,
        51, 60, 61, 99, 100, 101, 144, 288, 289, 388, 389, 9999, 10000, Integer.MAX_VALUE};
    /** What an object answers later is free. */
    private static final int MOST_CALLS = 512;
    private static int wrong = 0;
    private static long calls = 0;

    private final Random random;
    private final NineOnGrass real = new NineOnGrass();
    private final PlainModel plain = new PlainModel();
    private final List<String> told = new ArrayList<>();
    private final int seed;
    private int made = 0;
    private boolean failed = false;

    private ModelTest(int seed) {
        this.seed = seed;
        random = new Random(seed);
    }

    public static void main(String[] args) throws Exception {
        int first = args.length > 0 ? Integer.parseInt(args[0]) : 1;
        int runs = args.length > 1 ? Integer.parseInt(args[1]) : 1000;
        for (int seed = first; seed < first + runs && wrong < 5; seed++) {
            new ModelTest(seed).run();
        }
        System.out.println(calls + " calls, " + wrong + " runs not as due");
        if (wrong != 0) {
            System.exit(1);
        }
    }

    private static Method[] face() {
        Method[] all = NineOnGrass.class.getDeclaredMethods();
        List<Method> open = new ArrayList<>();
        for (Method m : all) {
            if (java.lang.reflect.Modifier.isPublic(m.getModifiers())) {
                open.add(m);
            }
        }
        open.sort(Comparator.comparing(Method::getName));
        return open.toArray(new Method[0]);
    }

    private static final Method[] FACE = face();

    private void run() throws Exception {
        for (int tries = 0; tries < 3 && chance(95) && plain.of(0).isEmpty(); tries++) {
            field();
        }
        if (chance(90)) {
            people();
        }
        for (int i = 0; i < 80 && !failed; i++) {
            if (chance(3)) {
                field();
            } else if (chance(6)) {
                people();
            } else if (chance(6)) {
                shift();
            } else {
                any();
            }
        }
    }

    private boolean chance(int hundredths) {
        return random.nextInt(100) < hundredths;
    }

    private int from(int least, int most) {
        return least + random.nextInt(most - least + 1);
    }

    /** A number that mostly is between these, but at times an edge of something. */
    private int near(int least, int most) {
        if (chance(3)) {
            return EDGES[random.nextInt(EDGES.length)];
        }
        return chance(4) ? (chance(50) ? least - 1 : most + 1) : from(least, most);
    }

    /** Often a CELL to which a HIT comes: there FIELDERS catch and stop. */
    private int cell() {
        int ball = from(0, 5);
        if (chance(60) && !plain.of(ball).isEmpty()) {
            PlainModel.Made m = plain.made(ball, random.nextInt(plain.of(ball).size()));
            int k = m.air >= 1 && m.air <= m.steps() && chance(70) ? m.air : m.steps();
            int c = k == 0 ? 144 : m.cell(chance(70) ? k : from(1, k));
            int beside = c + from(-1, 1) + 17 * from(-1, 1);
            return chance(40) && beside >= 0 && beside <= 288 ? beside : c;
        }
        int y = from(2, 14);
        return chance(10) ? near(-1, 288) : 17 * y + from(2, 14);
    }

    private void field() throws Exception {
        String text = text();
        int length = text.length();
        while (text.length() % 20 != 0) {
            text += " ";
        }
        for (int i = 0; i < text.length(); i += 20) {
            Object[] fives = new Object[5];
            for (int k = 0; k < 5; k++) {
                int four = 0;
                for (int b = 0; b < 4; b++) {
                    four = four << 8 | text.charAt(i + 4 * k + b) & 255;
                }
                fives[k] = four;
            }
            call("feed", fives);
        }
        call("field", chance(4) ? from(0, length) : length);
        call("fault", 0);
        call("fault", 1);
        call("count", 0);
    }

    private String text() {
        StringBuilder b = new StringBuilder();
        int lines = chance(5) ? from(25, 32) : from(1, 9);
        for (int i = 0; i < lines && b.length() < 700; i++) {
            line(b);
            if (lines > 20 && chance(90)) {
                continue;
            }
            b.append(chance(50) ? "\n" : "");
        }
        while (b.length() > 790) {
            b.setLength(790);
        }
        if (chance(15)) {
            corrupt(b);
        }
        return b.toString();
    }

    private void corrupt(StringBuilder b) {
        for (int times = from(1, 2); times > 0 && b.length() > 0; times--) {
            int at = random.nextInt(b.length());
            switch (from(0, 5)) {
                case 0 -> b.deleteCharAt(at);
                case 1 -> b.setCharAt(at, (char) random.nextInt(256));
                case 2 -> b.insert(at, "0123456789;; way for air at".charAt(random.nextInt(27)));
                case 3 -> b.setLength(at);
                case 4 -> b.setCharAt(at, ' ');
                default -> b.insert(at, new String[] {" 9", "way", " ;", " 1000 ", "\t", "edge", "99 "}[from(0, 6)]);
            }
        }
        if (b.length() > 800) {
            b.setLength(800);
        }
    }

    private String n(int least, int most) {
        int n = random.nextInt(400) == 0 ? (chance(50) ? least - 1 : most + 1) : from(least, most);
        n = Math.max(0, n);
        return chance(3) ? String.format("%03d", n) : "" + n;
    }

    private void line(StringBuilder b) {
        switch (from(0, 11)) {
            case 0 -> b.append("edge ").append(n(2, 8));
            case 1 -> b.append("run ").append(n(1, 60));
            case 2 -> b.append("worth ").append(n(0, 99));
            case 3 -> b.append("side ").append(chance(50) ? n(0, 9) : n(4, 9));
            case 4 -> b.append("near ").append(chance(70) ? n(0, 3) : n(0, 8));
            case 5, 6 -> {
                b.append("slow ").append(n(0, 20)).append(" at");
                for (int i = from(1, 5); i > 0; i--) {
                    b.append(' ').append(chance(40) ? n(0, 288) : "" + (17 * from(4, 12) + from(4, 12)));
                }
            }
            default -> {
                b.append("ball ").append(chance(60) ? n(0, 1) : n(0, 5));
                for (int i = chance(15) ? from(4, 8) : from(1, 3); i > 0; i--) {
                    b.append(" way ").append(n(0, 15)).append(" pace ").append(chance(70) ? n(1, 4) : n(1, 9));
                    b.append(chance(45) ? " air " + (chance(70) ? n(1, 5) : n(1, 8)) : "");
                    b.append(" for ").append(n(1, 99));
                }
            }
        }
        b.append(chance(20) ? " ;" : ";");
    }

    private void people() throws Exception {
        int many = chance(20) ? 9 : from(1, 6);
        for (int i = 0; i < many; i++) {
            int f = many == 9 ? i : from(0, 8);
            call("stand", f, cell());
            if (chance(40)) {
                call("fielder", f, chance(60) ? near(1, 3) : near(1, 9), near(0, 100), near(0, 50), near(0, 9));
            }
        }
        if (chance(30)) {
            call("batter", near(0, 4), near(0, 100));
        }
        if (chance(60)) {
            call("way", near(0, 3), 0);
        }
        if (chance(20)) {
            call("book", ball(), 0, near(0, 40));
        }
        call("judge");
    }

    /** Some who are there go elsewhere, and that is another WAY TO STAND. */
    private void shift() throws Exception {
        call("way", from(0, 3), 0);
        for (int f = 0; f < 9; f++) {
            if (plain.w.stand[f] != -1 && chance(50)) {
                call("stand", f, cell());
            }
        }
        call("way", from(0, 3), 0);
        call(chance(50) ? "walk" : "tells", way(), way());
        call(chance(50) ? "walk" : "tells", way(), way());
    }

    private void any() throws Exception {
        Method m = FACE[random.nextInt(FACE.length)];
        String name = m.getName();
        boolean dear = name.equals("settle") || name.equals("match") || name.equals("one") || name.equals("walk");
        boolean rare = name.equals("feed") || name.equals("field") || name.equals("restore");
        if (rare && chance(85) || dear && chance(name.equals("settle") ? 70 : 40)) {
            return;
        }
        int ball = ball();
        int hit = hit(ball);
        int f = fielder();
        switch (name) {
            case "feed" -> call(name, random.nextInt(), random.nextInt(), 0, 1, -1);
            case "field" -> call(name, chance(50) ? near(-1, 2) : plain.tape.length() + from(0, 1));
            case "fault" -> call(name, near(0, 1));
            case "hits", "mean", "bound", "gap", "learn" -> call(name, ball);
            case "hit" -> call(name, ball, hit, near(0, 5));
            case "tick" -> call(name, ball, hit, near(1, 8));
            case "fielder" -> call(name, f, near(1, 9), near(0, 100), near(0, 50), near(0, 9));
            case "stand" -> call(name, f, cell());
            case "of" -> call(name, f, near(0, 4));
            case "judge", "upper", "lower", "bowl" -> call(name);
            case "batter" -> call(name, near(0, 4), near(0, 100));
            case "catcher", "caught", "stopper", "stops", "runs", "cost" -> call(name, ball, hit);
            case "one", "worth" -> call(name, f, ball);
            case "settle" -> call(name, ball, chance(50) ? near(0, 3) : near(0, 50));
            case "way" -> call(name, way(), near(0, 1));
            case "rest" -> rest();
            case "walk", "tells" -> call(name, way(), way());
            case "match" -> match(ball);
            case "brave" -> call(name, f, ball, cell());
            case "both" -> call(name, ball, near(0, 100));
            case "book" -> call(name, ball, hit, chance(70) ? near(0, 30) : near(0, 9999));
            case "ends" -> call(name, ball, hit, chance(50));
            case "enough" -> call(name, ball, hit, near(1, 100));
            case "chase" -> call(name, chance(70));
            case "play" -> call(name, ball, near(1, 60), random.nextInt());
            case "score" -> call(name, near(0, 3));
            case "tray" -> call(name, near(0, 3), near(0, 3), near(0, 40));
            case "write" -> call(name, near(0, 3), chance(70) ? near(0, 5) : near(0, 39), number());
            case "pour" -> pour();
            case "image", "restore" -> call(name, near(0, 2));
            case "count" -> call(name, chance(50) ? near(0, 11) : near(100, 388));
            default -> throw new IllegalStateException(name);
        }
        if (chance(50)) {
            call("upper");
            call("lower");
        }
        if (chance(20)) {
            look();
        }
    }

    private int ball() {
        int ball = near(0, 5);
        for (int tries = 0; tries < 20 && chance(95) && (ball < 0 || ball > 5 || plain.of(ball).isEmpty()); tries++) {
            ball = from(0, 5);
        }
        return ball;
    }

    private int hit(int ball) {
        return ball < 0 || ball > 5 ? near(0, 1) : near(0, Math.max(0, plain.of(ball).size() - 1));
    }

    private int fielder() {
        int f = near(0, 8);
        for (int tries = 0; tries < 20 && chance(95) && (f < 0 || f > 8 || plain.w.stand[f] == -1); tries++) {
            f = from(0, 8);
        }
        return f;
    }

    private int way() {
        int way = near(0, 3);
        for (int tries = 0; tries < 20 && chance(95) && (way < 0 || way > 3 || plain.w.ways[way] == null); tries++) {
            way = from(0, 3);
        }
        return way;
    }

    private void rest() throws Exception {
        int a = way();
        int b = way();
        int ball = ball();
        int what = near(0, 1);
        call("rest", a, b, ball, what);
        call("upper");
        call("lower");
        call("rest", a, b, ball, 1);
    }

    private long number() {
        return chance(60) ? cell() : chance(50) ? random.nextLong() : near(-1, 288);
    }

    private void match(int ball) throws Exception {
        int tray = near(0, 3);
        int n = chance(85) ? near(1, 4) : near(1, 6);
        if (chance(80)) {
            fill(tray, from(1, 2), chance(90) ? Math.max(0, Math.min(n, 40)) + from(0, 1) : near(0, 8));
            if (chance(15)) {
                call("write", tray, chance(50) ? n : near(0, 8), number());
            }
        }
        for (int i = 0; i < 2; i++) {
            call("match", ball, tray, n, chance(90) ? from(0, Math.max(1, Math.min(n, 7)) - 1) : near(0, 6));
        }
    }

    private void pour() throws Exception {
        int tray = near(0, 3);
        if (chance(70)) {
            fill(tray, from(0, 3), near(0, 9));
        }
        call("pour", tray);
        look();
    }

    private void fill(int tray, int sort, int many) throws Exception {
        call("tray", tray, sort, many);
        for (int i = 0; i < Math.min(many, 9); i++) {
            call("write", tray, i, (long) cell());
        }
    }

    private void look() throws Exception {
        call("upper");
        call("lower");
        call("judge");
        for (int f = 0; f < 9; f++) {
            call("of", f, 0);
        }
        for (int what = 0; what < 12; what++) {
            call("count", what);
        }
        for (int what = 0; what < 4; what++) {
            call("score", what);
        }
    }

    private void call(String name, Object... args) throws Exception {
        if (failed || made == MOST_CALLS) {
            return;
        }
        made++;
        calls++;
        String got = answer(real, name, args);
        String due = answer(plain, name, args);
        told.add(name + Arrays.toString(args) + " = " + got);
        if (!got.equals(due)) {
            failed = true;
            wrong++;
            System.out.println("seed " + seed + ": " + told.get(told.size() - 1) + ", due is " + due);
            for (String line : told) {
                System.out.println("    " + line);
            }
        }
    }

    private static String answer(Object on, String name, Object[] args) throws Exception {
        for (Method m : on.getClass().getDeclaredMethods()) {
            if (m.getName().equals(name) && fits(m, args)) {
                m.setAccessible(true);
                try {
                    return "" + m.invoke(on, args);
                } catch (InvocationTargetException e) {
                    return "throws " + e.getCause().getClass().getName();
                }
            }
        }
        throw new IllegalStateException("no call " + name + Arrays.toString(args));
    }

    private static boolean fits(Method m, Object[] args) {
        Class<?>[] types = m.getParameterTypes();
        if (types.length != args.length) {
            return false;
        }
        for (int i = 0; i < types.length; i++) {
            Class<?> want = args[i] instanceof Integer ? int.class : args[i] instanceof Long ? long.class : boolean.class;
            if (types[i] != want) {
                return false;
            }
        }
        return true;
    }
}
