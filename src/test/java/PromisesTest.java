import java.util.NoSuchElementException;

/** Every promise of the document by hand: ordinary inputs, the edges that it names, and wrong inputs. */
public final class PromisesTest {
    private static final Class<?> NO_SUCH = NoSuchElementException.class;
    private static final Class<?> BAD = IllegalArgumentException.class;
    private static final Class<?> ILL = IllegalStateException.class;
    private static final Class<?> OUTSIDE = IndexOutOfBoundsException.class;
    private static final int NONE = NineOnGrass.NONE;
    private static final int LEAST = Integer.MIN_VALUE;
    private static final int GREATEST = Integer.MAX_VALUE;

    /**
     * East along the ground (cells 145 .. 152, tick 2 a step) and north through the air (127, 110, 93 ..,
     * tick 3 a step, down at step 3); west, slow (143 .. 136, tick 9 a step).
     */
    private static final String PLAIN =
            "ball 0 way 4 pace 2 for 3 way 0 pace 3 air 3 for 1; ball 1 way 12 pace 9 for 5;";

    private static int promise;
    private static int due = 0;
    private static int wrong = 0;

    private interface Call {
        void now();
    }

    public static void main(String[] args) {
        promise1();
        promise2();
        promise3();
        promise4();
        faults();
        promises5to7();
        promises8to12();
        promises13to18();
        catchesAndStops();
        promises19to21();
        promises22to23();
        promises24to25();
        promise26();
        promise27();
        promises28to29();
        promise30();
        promise31();
        promises32to34();
        promises35to38();
        promises39to41();
        promises42to44();
        promises45to46();
        promise47();
        readme();
        System.out.println(due + " answers looked at, " + wrong + " not as due");
        if (wrong != 0) {
            System.exit(1);
        }
    }

    private static void due(String call, long got, long want) {
        due++;
        if (got != want) {
            wrong++;
            System.out.println("promise " + promise + ": " + call + " answered " + got + ", due is " + want);
        }
    }

    private static void due(String call, boolean got, boolean want) {
        due(call, got ? 1 : 0, want ? 1 : 0);
    }

    private static void thrown(String call, Class<?> want, Call it) {
        due++;
        Class<?> got = null;
        try {
            it.now();
        } catch (RuntimeException e) {
            got = e.getClass();
        }
        if (got != want) {
            wrong++;
            System.out.println("promise " + promise + ": " + call + " threw " + got + ", due is " + want);
        }
    }

    private static void fraction(String call, NineOnGrass x, boolean told, long up, long low) {
        due(call, told, low != 0);
        due(call + " upper", x.upper(), up);
        due(call + " lower", x.lower(), low);
    }

    /** Lays a text on the tape of an object and makes it THE FIELD. */
    private static int put(NineOnGrass x, String text) {
        StringBuilder b = new StringBuilder(text);
        while (b.length() % 20 != 0) {
            b.append(' ');
        }
        for (int i = 0; i < b.length(); i += 20) {
            x.feed(four(b, i), four(b, i + 4), four(b, i + 8), four(b, i + 12), four(b, i + 16));
        }
        return x.field(text.length());
    }

    private static int four(StringBuilder b, int i) {
        return b.charAt(i) << 24 | b.charAt(i + 1) << 16 | b.charAt(i + 2) << 8 | b.charAt(i + 3);
    }

    private static NineOnGrass on(String text) {
        NineOnGrass x = new NineOnGrass();
        due("field: " + text, put(x, text) >= 0, true);
        return x;
    }

    private static NineOnGrass on(String text, int... stands) {
        NineOnGrass x = on(text);
        for (int f = 0; f < stands.length; f++) {
            x.stand(f, stands[f]);
        }
        return x;
    }

    private static void row(NineOnGrass x, int tray, int sort, int... numbers) {
        x.tray(tray, sort, numbers.length);
        for (int i = 0; i < numbers.length; i++) {
            x.write(tray, i, numbers[i]);
        }
    }

    private static void promise1() {
        promise = 1;
        NineOnGrass x = new NineOnGrass();
        int[] counts = {0, 8, 9, 20, 9, 1, 0, 0, 0, 0, 0, 0};
        for (int what = 0; what < counts.length; what++) {
            due("count(" + what + ")", x.count(what), counts[what]);
        }
        for (int cell = 0; cell < 289; cell++) {
            due("slow of " + cell, x.count(100 + cell), 0);
        }
        int[] of = {NONE, 3, 80, 10, 1};
        for (int f = 0; f < 9; f++) {
            for (int what = 0; what < 5; what++) {
                due("of(" + f + ", " + what + ")", x.of(f, what), of[what]);
            }
        }
        for (int ball = 0; ball < 6; ball++) {
            due("hits", x.hits(ball), 0);
        }
        for (int i = 0; i < 4; i++) {
            int k = i;
            due("score", x.score(i), 0);
            thrown("write", ILL, () -> x.write(k, 0, 0));
            thrown("way", ILL, () -> x.way(k, 1));
        }
        for (int i = 0; i < 3; i++) {
            int k = i;
            thrown("restore", ILL, () -> x.restore(k));
        }
        due("upper()", x.upper(), 0);
        due("lower()", x.lower(), 0);
        due("fault(0)", x.fault(0), 0);
        due("fault(1)", x.fault(1), NONE);
        due("judge()", x.judge(), NONE);
        due("chase(false)", x.chase(false), false);
        due("NONE", NONE, -1);
    }

    private static void promise2() {
        promise = 2;
        NineOnGrass x = new NineOnGrass();
        for (int i = 1; i <= 40; i++) {
            due("feed", x.feed(0x65646765, 0x20383b0a, 0x20202020, 0x0a0a0a0a, 0x20202020), 20 * i);
        }
        due("feed, 820 bytes", x.feed(0x21212121, 0, 0, 0, 0), NONE);
        due("count(7)", x.count(7), 800);
        due("field(800)", x.field(800), -14);
        due("fault(1)", x.fault(1), 600);
        due("count(7)", x.count(7), 0);
        due("feed", x.feed(0x65646765, 0x20353b72, 0x756e2033, 0x333b6e65, 0x61722034), 20);
        due("feed", x.feed(0x3b000000, 0, 0, 0, 0), 40);
        due("field", x.field(21), 3);
        due("edge", x.count(1), 5);
        due("run", x.count(2), 33);
        due("near", x.count(5), 4);
    }

    private static void promise3() {
        promise = 3;
        NineOnGrass x = new NineOnGrass();
        thrown("field(-1)", BAD, () -> x.field(-1));
        thrown("field(1)", BAD, () -> x.field(1));
        thrown("field(LEAST)", BAD, () -> x.field(LEAST));
        thrown("field(GREATEST)", BAD, () -> x.field(GREATEST));
        due("field(0)", x.field(0), 0);
        due("lines", put(x, "edge 7; run 20; worth 5; side 4; near 2; slow 3 at 10 11; slow 4 at 11;" + PLAIN), 9);
        int[] counts = {9, 7, 20, 5, 4, 2};
        for (int what = 0; what < counts.length; what++) {
            due("count(" + what + ")", x.count(what), counts[what]);
        }
        due("slow", x.count(110), 3);
        due("the later slow", x.count(111), 4);
        due("hits(0)", x.hits(0), 2);
        due("later ones strike", put(x, "edge 3; edge 5; run 4; run 5; worth 1; worth 0; side 3; side 1;near 3;near 0;"), 10);
        due("edge", x.count(1), 5);
        due("run", x.count(2), 5);
        due("worth", x.count(3), 0);
        due("side", x.count(4), 1);
        due("near", x.count(5), 0);
        due("hits(0)", x.hits(0), 0);
        due("slow", x.count(110), 0);
        fieldBegins();
        due("bounds", put(x, "edge 2;run 60;worth 99;side 9;near 8;slow 20 at 0 288;slow 0 at 0;ball 5 way 15 pace 9 air 8 for 99;"), 8);
        due("slow of 288", x.count(388), 20);
        due("slow of 0", x.count(100), 0);
        due("way", x.hit(5, 0, 0), 15);
        due("for", x.hit(5, 0, 3), 99);
        due("blanks", put(x, "\n edge\n8 ;\n\n run   007;ball0way003pace1for1;\n "), 3);
        due("run", x.count(2), 7);
        due("defaults again", put(x, ""), 0);
        due("edge", x.count(1), 8);
        due("run", x.count(2), 9);
        due("worth", x.count(3), 20);
        due("side", x.count(4), 9);
        due("near", x.count(5), 1);
    }

    /** What a new THE FIELD empties, what a FAULT and a throw leave, and that the tape is empty. */
    private static void fieldBegins() {
        NineOnGrass x = on(PLAIN, 148, 93);
        x.fielder(0, 4, 70, 5, 2);
        x.batter(1, 30);
        x.chase(true);
        x.way(2, 0);
        x.book(0, 1, 7);
        x.play(1, 3, 5);
        x.mean(0);
        long up = x.upper();
        due("a FAULT", put(x, "edge 5; edge 9;"), -13);
        due("edge stays", x.count(1), 8);
        due("STAND stays", x.of(0, 0), 148);
        due("seen stays", x.hit(0, 1, 5), 7);
        due("ways stay", x.count(11), 4);
        due("score stays", x.score(3), 3);
        due("the tape is empty", x.count(7), 0);
        x.feed(0x20202020, 0x20202020, 0x20202020, 0x20202020, 0x20202020);
        thrown("field(21)", BAD, () -> x.field(21));
        due("a throw leaves the tape", x.count(7), 20);
        due("a throw leaves the FAULT", x.fault(0), 3);
        due("field(20), of blanks", x.field(20), 0);
        due("the tape is empty", x.count(7), 0);
        due("nobody is there", x.count(6), 0);
        due("no ways", x.count(11), 0);
        due("pace stays", x.of(0, 1), 4);
        due("kind stays", x.count(8), 1);
        due("share stays", x.count(9), 30);
        due("chase stays", x.count(10), 1);
        due("the FRACTION stays", x.upper(), up);
        for (int what = 0; what < 4; what++) {
            due("score", x.score(what), 0);
        }
        due("field", put(x, PLAIN), 2);
        due("seen", x.hit(0, 1, 5), 0);
        x.feed(0x65646765, 0x20383b3f, 0x3f3f3f3f, 0x3f3f3f3f, 0x3f3f3f3f);
        due("the first 7 bytes", x.field(7), 1);
        due("the tape is empty", x.count(7), 0);
    }

    private static void promise4() {
        promise = 4;
        NineOnGrass x = new NineOnGrass();
        due("field", put(x, "edge 5; run"), -12);
        due("fault(0)", x.fault(0), 2);
        due("fault(1)", x.fault(1), 11);
        for (int what : new int[] {-1, 2, 100, LEAST, GREATEST}) {
            due("fault(" + what + ")", x.fault(what), NONE);
        }
        due("field", put(x, "edge 5;"), 1);
        due("fault(0)", x.fault(0), 0);
        due("fault(1)", x.fault(1), NONE);
    }

    private static void fault(String text, int kind, int place) {
        NineOnGrass x = new NineOnGrass();
        due(text, put(x, text), -10 - kind);
        due(text + ": kind", x.fault(0), kind);
        due(text + ": place", x.fault(1), place);
    }

    private static void faults() {
        promise = 3;
        fault("Edge 8;", 1, 0);
        fault("edge\t8;", 1, 4);
        fault("edge 8,", 1, 6);
        fault("edge -8;", 1, 5);
        fault("edge 1234;", 1, 5);
        fault("edge 0008;", 1, 5);
        fault("1234 edge 8;", 1, 0);
        fault("edge " + (char) 233, 1, 5);
        fault("edge " + (char) 0, 1, 5);
        fault("edge 8", 2, 6);
        fault("edge 8 \n", 2, 8);
        fault("edge", 2, 4);
        fault("edge;", 2, 4);
        fault("edge edge;", 2, 5);
        fault("edge 8 8;", 2, 7);
        fault(";", 2, 0);
        fault("8;", 2, 0);
        fault("edge 8;;", 2, 7);
        fault("edges 8;", 2, 0);
        fault("edg 8;", 2, 0);
        fault("at 8;", 2, 0);
        for (String word : new String[] {"fun 3;", "ruk 3;", "tall 3 way", "bald 3 way", "dear 3;", "slog 3 at", "sidle 3;"}) {
            fault(word, 2, 0);
        }
        fault("edge 1;", 3, 5);
        fault("edge 9;", 3, 5);
        fault("run 0;", 3, 4);
        fault("run 61;", 3, 4);
        fault("worth 100;", 3, 6);
        fault("side 10;", 3, 5);
        fault("near 9;", 3, 5);
        fault("near 999 9999", 3, 5);
        fault("slow 21 at 3;", 3, 5);
        fault("slow 2 3;", 2, 7);
        fault("slow 2 at;", 2, 9);
        fault("slow 2 at 5 289;", 3, 12);
        fault("slow 2 at 5 at 6;", 2, 12);
        fault("ball 6 way 1 pace 1 for 1;", 3, 5);
        fault("ball 0;", 2, 6);
        fault("ball 0 for 1;", 2, 7);
        fault("ball 0 way 16 pace 1 for 1;", 3, 11);
        fault("ball 0 way 1 for 1;", 2, 13);
        fault("ball 0 way 1 pace 0 for 1;", 3, 18);
        fault("ball 0 way 1 pace 10 for 1;", 3, 18);
        fault("ball 0 way 1 pace 1 air 0 for 1;", 3, 24);
        fault("ball 0 way 1 pace 1 air 9 for 1;", 3, 24);
        fault("ball 0 way 1 pace 1 air 8;", 2, 25);
        fault("ball 0 way 1 pace 1 air 8 air 8 for 1;", 2, 26);
        fault("ball 0 way 1 pace 1;", 2, 19);
        fault("ball 0 way 1 pace 1 for 0;", 3, 24);
        fault("ball 0 way 1 pace 1 for 100;", 3, 24);
        fault("ball 0 way 1 pace 1 for 1 air 1;", 2, 26);
        fault("ball 0 way 1 pace 1 for 1 pace 1;", 2, 26);
        String thirty = "near 1;".repeat(30);
        fault(thirty + " edge 9;", 4, 211);
        fault(thirty + "edges 9;", 2, 210);
        fault(thirty + ";", 2, 210);
        fault(thirty + "EDGE", 1, 210);
        fault(thirty + "1234", 1, 210);
        String hit = " way 1 pace 1 for 1";
        fault("ball 3" + hit.repeat(9) + ";", 5, 6 + 19 * 8 + 1);
        fault("ball 3" + hit.repeat(5) + ";ball 3" + hit.repeat(4) + ";", 5, 6 + 19 * 8 + 7 + 1);
        fault("ball 3" + hit.repeat(8) + ";ball 3 foo", 2, 6 + 19 * 8 + 1 + 7);
        fault("ball 3" + hit.repeat(8) + " air 3;", 2, 6 + 19 * 8 + 1);
        NineOnGrass x = on(thirty + "  \n ");
        due("count(0)", x.count(0), 30);
        x = on("ball 3" + hit.repeat(5) + ";ball 4" + hit + ";ball 3" + hit.repeat(3) + ";ball 5" + hit.repeat(8) + ";");
        due("hits(3)", x.hits(3), 8);
        due("hits(4)", x.hits(4), 1);
        due("hits(5)", x.hits(5), 8);
    }

    private static void promises5to7() {
        promise = 5;
        NineOnGrass x = on("edge 8;" + PLAIN + "ball 0 way 3 pace 5 air 2 for 7;");
        due("hits(0)", x.hits(0), 3);
        due("hits(1)", x.hits(1), 1);
        due("hits(5)", x.hits(5), 0);
        for (int ball : new int[] {-1, 6, LEAST, GREATEST}) {
            thrown("hits(" + ball + ")", NO_SUCH, () -> x.hits(ball));
            thrown("hit", NO_SUCH, () -> x.hit(ball, 0, 9));
            thrown("tick", NO_SUCH, () -> x.tick(ball, 0, 99));
        }
        promise = 6;
        int[][] want = {{4, 2, 0, 3, 8, 0}, {0, 3, 3, 1, 8, 0}, {3, 5, 2, 7, 3, 6}};
        x.book(0, 2, 6);
        for (int hit = 0; hit < 3; hit++) {
            for (int what = 0; what < 6; what++) {
                due("hit(0, " + hit + ", " + what + ")", x.hit(0, hit, what), want[hit][what]);
            }
        }
        for (int wrongOne : new int[] {-1, 3, 8, LEAST, GREATEST}) {
            thrown("hit(0, " + wrongOne + ", 0)", NO_SUCH, () -> x.hit(0, wrongOne, 0));
            thrown("hit(1, 0, what)", BAD, () -> x.hit(1, 0, wrongOne == 3 ? 6 : wrongOne == 8 ? 7 : wrongOne));
        }
        thrown("hit(5, 0, 0)", NO_SUCH, () -> x.hit(5, 0, 0));
        int[] firstCells = {127, 111, 128, 129, 145, 163, 162, 179, 161, 177, 160, 159, 143, 125, 126, 109};
        int[] steps = {8, 3, 5, 3, 8, 3, 5, 3, 8, 3, 5, 3, 8, 3, 5, 3};
        int[] stepsOfSix = {6, 2, 4, 2, 6, 2, 4, 2, 6, 2, 4, 2, 6, 2, 4, 2};
        for (int way = 0; way < 16; way++) {
            NineOnGrass y = on("slow 20 at " + firstCells[way] + "; ball 2 way " + way + " pace 1 for 1;");
            due("first cell of way " + way, y.tick(2, 0, 1), 21);
            due("steps of way " + way, y.hit(2, 0, 4), steps[way]);
            y.batter(4, 0);
            due("way " + way + " the other way", y.hit(2, 0, 0), (16 - way) % 16);
            y = on("edge 6; ball 2 way " + way + " pace 1 for 1;");
            due("steps of way " + way + ", edge 6", y.hit(2, 0, 4), stepsOfSix[way]);
        }
        due("no step", on("edge 2; ball 2 way 1 pace 1 for 1;").hit(2, 0, 4), 0);
        promise = 7;
        NineOnGrass y = on("slow 5 at 148; ball 0 way 4 pace 2 for 1 way 4 pace 2 air 4 for 1 way 4 pace 2 air 5 for 1;");
        int[][] ticks = {{2, 4, 6, 13, 15, 17, 19, 21}, {2, 4, 6, 13, 15, 17, 19, 21}, {2, 4, 6, 8, 10, 12, 14, 16}};
        for (int hit = 0; hit < 3; hit++) {
            int h = hit;
            for (int k = 1; k <= 8; k++) {
                due("tick(0, " + hit + ", " + k + ")", y.tick(0, hit, k), ticks[hit][k - 1]);
            }
            for (int k : new int[] {LEAST, -1, 0, 9, GREATEST}) {
                thrown("tick(0, " + hit + ", " + k + ")", BAD, () -> y.tick(0, h, k));
            }
        }
        thrown("tick(0, 3, 1)", NO_SUCH, () -> y.tick(0, 3, 0));
        y.batter(2, 0);
        due("kept down", y.tick(0, 2, 4), 13);
        NineOnGrass z = on("edge 2; ball 2 way 1 pace 1 for 1;");
        thrown("tick without steps", BAD, () -> z.tick(2, 0, 1));
    }

    private static void promises8to12() {
        promise = 8;
        NineOnGrass x = on(PLAIN);
        x.fielder(8, 9, 100, 50, 9);
        x.fielder(0, 1, 0, 0, 0);
        int[] high = {NONE, 9, 100, 50, 9};
        int[] low = {NONE, 1, 0, 0, 0};
        int[][] bad = {{0, 1, 1, 1}, {10, 1, 1, 1}, {1, -1, 1, 1}, {1, 101, 1, 1}, {1, 1, -1, 1}, {1, 1, 51, 1},
            {1, 1, 1, -1}, {1, 1, 1, 10}, {LEAST, 1, 1, 1}, {1, GREATEST, 1, 1}};
        for (int[] b : bad) {
            thrown("fielder", BAD, () -> x.fielder(8, b[0], b[1], b[2], b[3]));
            thrown("fielder", NO_SUCH, () -> x.fielder(9, b[0], b[1], b[2], b[3]));
        }
        thrown("fielder(-1 ..)", NO_SUCH, () -> x.fielder(-1, 1, 1, 1, 1));
        promise = 10;
        for (int what = 0; what < 5; what++) {
            due("of(8, " + what + ")", x.of(8, what), high[what]);
            due("of(0, " + what + ")", x.of(0, what), low[what]);
        }
        due("of(7, 1)", x.of(7, 1), 3);
        for (int what : new int[] {-1, 5, LEAST, GREATEST}) {
            thrown("of", BAD, () -> x.of(0, what));
        }
        thrown("of(9, 9)", NO_SUCH, () -> x.of(9, 9));
        thrown("of(-1, 0)", NO_SUCH, () -> x.of(-1, 0));
        promise = 9;
        due("stand", x.stand(3, 288), NONE);
        due("stand", x.stand(3, 0), 288);
        thrown("stand(3, 289)", BAD, () -> x.stand(3, 289));
        thrown("stand(3, -2)", BAD, () -> x.stand(3, -2));
        thrown("stand(9, 289)", NO_SUCH, () -> x.stand(9, 289));
        thrown("stand(-1, 0)", NO_SUCH, () -> x.stand(-1, 0));
        due("stand", x.stand(3, NONE), 0);
        due("stand", x.stand(3, NONE), NONE);
        promise11();
        promise = 12;
        x.batter(4, 100);
        due("kind", x.count(8), 4);
        due("share", x.count(9), 100);
        for (int n : new int[] {-1, 5, LEAST, GREATEST}) {
            thrown("batter(" + n + ", 0)", BAD, () -> x.batter(n, 0));
        }
        thrown("batter(0, 101)", BAD, () -> x.batter(0, 101));
        thrown("batter(0, -1)", BAD, () -> x.batter(0, -1));
        due("kind", x.count(8), 4);
        NineOnGrass y = on("ball 0 way 1 pace 1 for 1 way 0 pace 1 air 2 for 1 way 15 pace 1 air 7 for 1;");
        int[][] airs = {{0, 2, 7}, {0, 2, 7}, {0, 0, 0}, {3, 3, 7}, {0, 2, 7}};
        int[][] ways = {{1, 0, 15}, {1, 0, 15}, {1, 0, 15}, {1, 0, 15}, {15, 0, 1}};
        for (int kind = 0; kind < 5; kind++) {
            y.batter(kind, 50);
            for (int hit = 0; hit < 3; hit++) {
                due("air by kind " + kind, y.hit(0, hit, 2), airs[kind][hit]);
                due("way by kind " + kind, y.hit(0, hit, 0), ways[kind][hit]);
            }
        }
    }

    private static void promise11() {
        promise = 11;
        NineOnGrass x = on("edge 5; near 2; side 2;");
        due("nobody", x.judge(), NONE);
        x.stand(4, 144 + 5);
        due("at the edge", x.judge(), NONE);
        x.stand(4, 144 + 6);
        due("not IN", x.judge(), 41);
        x.stand(4, 144 + 17 + 5);
        due("26 is more than 25", x.judge(), 41);
        x.stand(4, 144 + 4 * 17 + 3);
        due("25 is no more than 25", x.judge(), NONE);
        x.stand(7, 145);
        due("too near", x.judge(), 72);
        x.stand(7, 144 + 18);
        due("too near", x.judge(), 72);
        x.stand(7, 144 + 17 + 2);
        due("2 is near enough", x.judge(), NONE);
        x.stand(8, 144 + 4 * 17 + 3);
        due("the CELL of 4", x.judge(), 83);
        x.stand(4, 0);
        due("the first FIELDER tells", x.judge(), 41);
        x.stand(8, 0);
        x.stand(4, NONE);
        due("outside, alone", x.judge(), 81);
        x.stand(4, 0);
        x.stand(4, 142);
        x.stand(5, 141);
        x.stand(8, NONE);
        due("two on the left", x.judge(), NONE);
        x.stand(6, 140);
        due("three on the left", x.judge(), 64);
        x.stand(6, 141);
        due("taken before side", x.judge(), 63);
        x.stand(6, 144 + 34);
        due("x 8 isn't left", x.judge(), NONE);
        due("side 0, right", on("side 0;", 145).judge(), NONE);
        due("side 0, left", on("side 0;", 145, 143).judge(), 14);
        due("near 0 lets it be on the BAT", on("near 0;", 144).judge(), NONE);
        due("near 1 doesn't", on("", 144).judge(), 2);
    }

    private static void promises13to18() {
        NineOnGrass x = on(PLAIN, 148);
        // 148 is 3 cells east of 145: 3 times 3 ticks are needed; at step 3 one cell, 3 of 6 ticks.
        int[][] alone = {{NONE, 0, 0, 3, 1, 100}, {NONE, 0, 0, 4, 1, 100}};
        both(x, alone);
        x.stand(1, 93);
        int[][] two = {{NONE, 0, 0, 3, 1, 100}, {1, 80, 0, 4, 1, 20 * 1 - 20 * 80}};
        both(x, two);
        x.fielder(1, 1, 55, 7, 0);
        x.stand(1, 93 + 2);
        int[][] off = {{NONE, 0, 1, 2, 0, 0}, {1, 41, 0, 4, 1, 59 - 20 * 41}};
        both(x, off);
        for (int ball : new int[] {-1, 6, LEAST, GREATEST}) {
            wrongHit(x, ball, 0);
            wrongHit(x, 0, ball < 0 ? ball : 2);
        }
        wrongHit(x, 5, 0);
    }

    private static void wrongHit(NineOnGrass x, int ball, int hit) {
        promise = 13;
        thrown("catcher", NO_SUCH, () -> x.catcher(ball, hit));
        promise = 14;
        thrown("caught", NO_SUCH, () -> x.caught(ball, hit));
        promise = 15;
        thrown("stopper", NO_SUCH, () -> x.stopper(ball, hit));
        promise = 16;
        thrown("stops", NO_SUCH, () -> x.stops(ball, hit));
        promise = 17;
        thrown("runs", NO_SUCH, () -> x.runs(ball, hit));
        promise = 18;
        thrown("cost", NO_SUCH, () -> x.cost(ball, hit));
    }

    private static void both(NineOnGrass x, int[][] want) {
        for (int hit = 0; hit < want.length; hit++) {
            outcome(x, 0, hit, want[hit]);
        }
    }

    /** CATCHER, CATCH, who stops, at which step, RUNS, COST. */
    private static void outcome(NineOnGrass x, int ball, int hit, int... want) {
        promise = 13;
        due("catcher(" + ball + ", " + hit + ")", x.catcher(ball, hit), want[0]);
        promise = 14;
        due("caught(" + ball + ", " + hit + ")", x.caught(ball, hit), want[1]);
        promise = 15;
        due("stopper(" + ball + ", " + hit + ")", x.stopper(ball, hit), want[2]);
        promise = 16;
        due("stops(" + ball + ", " + hit + ")", x.stops(ball, hit), want[3]);
        promise = 17;
        due("runs(" + ball + ", " + hit + ")", x.runs(ball, hit), want[4]);
        promise = 18;
        due("cost(" + ball + ", " + hit + ")", x.cost(ball, hit), want[5]);
    }

    private static void catchesAndStops() {
        // Nobody: 4 along the ground or down before the edge, 6 over it.
        NineOnGrass x = on("edge 4; ball 0 way 4 pace 1 for 1 way 4 pace 1 air 4 for 1 way 4 pace 1 air 5 for 1;");
        outcome(x, 0, 0, NONE, 0, NONE, NONE, 4, 400);
        outcome(x, 0, 1, NONE, 0, NONE, NONE, 4, 400);
        outcome(x, 0, 2, NONE, 0, NONE, NONE, 6, 600);
        x.stand(0, 149);
        outcome(x, 0, 2, NONE, 0, NONE, NONE, 6, 600);
        // Down on the last step: it can be caught there, but not stopped.
        x.stand(0, 148);
        outcome(x, 0, 1, 0, 80, NONE, NONE, 4, 20 * 4 - 20 * 80);
        // Of two as far in time the least has it; the other one stops it.
        x = on("ball 0 way 4 pace 3 air 2 for 1;", NONE, 146 + 17, NONE, 146 - 17, 146 + 34);
        outcome(x, 0, 0, 1, 70, 3, 3, 1, 30 - 1400);
        x.fielder(3, 2, 80, 10, 0);
        outcome(x, 0, 0, 3, 70, 1, 3, 1, 30 - 1400);
        x.fielder(4, 1, 80, 45, 0);
        outcome(x, 0, 0, 3, 70, 4, 3, 1, 30 - 1400);
        // PER times FAR above HANDS: a CATCHER without a chance, who doesn't stop either.
        x = on("ball 0 way 4 pace 9 air 2 for 1;", 146 + 17 * 3);
        x.fielder(0, 1, 20, 10, 0);
        outcome(x, 0, 0, 0, 0, NONE, NONE, 4, 400);
        // In the air it isn't stopped ahead of where it comes down.
        x = on("ball 0 way 4 pace 9 air 5 for 1;", 145, 147);
        x.fielder(0, 9, 80, 10, 1);
        x.fielder(1, 9, 80, 10, 1);
        outcome(x, 0, 0, 1, 60, 0, 6, 3, 40 * 3 - 20 * 60);
        // Time just enough, and one tick too little.
        x = on("run 60; ball 0 way 4 pace 3 for 1;", 144 + 2 - 17);
        outcome(x, 0, 0, NONE, 0, 0, 1, 0, 0);
        x = on("run 60; ball 0 way 4 pace 2 for 1;", 144 + 2 - 17);
        outcome(x, 0, 0, NONE, 0, 0, 2, 0, 0);
        // RUNS are cut, 3 at most; the ARM counts by FAR from the BAT.
        x = on("run 12; ball 0 way 4 pace 9 for 1;", 147);
        x.fielder(0, 9, 80, 10, 9);
        outcome(x, 0, 0, NONE, 0, 0, 2, 3, 300);
        x.fielder(0, 9, 80, 10, 8);
        outcome(x, 0, 0, NONE, 0, 0, 2, 2, 200);
        x = on("run 1; ball 0 way 4 pace 9 for 1;", 147);
        outcome(x, 0, 0, NONE, 0, 0, 1, 3, 300);
        // What slows the ball brings the FIELDER there in time.
        x = on("slow 20 at 146; ball 0 way 4 pace 1 for 1;", 146 + 17 * 6);
        outcome(x, 0, 0, NONE, 0, 0, 2, 2, 200);
        // Kept down it can't be caught; lifted it can.
        x = on(PLAIN, 93);
        x.batter(2, 0);
        outcome(x, 0, 1, NONE, 0, 0, 2, 0, 0);
        x.batter(3, 0);
        outcome(x, 0, 0, NONE, 0, NONE, NONE, 4, 400);
        x.stand(0, 147);
        outcome(x, 0, 0, 0, 80, NONE, NONE, 4, 80 - 1600);
        x.batter(4, 0);
        outcome(x, 1, 0, NONE, 0, 0, 1, 1, 100);
        // The worth of a catch.
        x = on("worth 99; ball 0 way 4 pace 3 air 2 for 1;", 146);
        x.fielder(0, 1, 100, 0, 0);
        outcome(x, 0, 0, 0, 100, NONE, NONE, 4, -9900);
    }

    private static void promises19to21() {
        promise = 19;
        NineOnGrass x = on(PLAIN, 148);
        fraction("mean(0)", x, x.mean(0), 1, 1);
        x.stand(1, 93);
        fraction("mean(0)", x, x.mean(0), -16, 5);
        x.batter(1, 50);
        fraction("mean(0), half looked", x, x.mean(0), -11, 10);
        x.batter(1, 100);
        fraction("mean(0), all looked", x, x.mean(0), 1, 1);
        x.batter(1, 0);
        fraction("mean(0), none looked", x, x.mean(0), -16, 5);
        x.batter(0, 50);
        fraction("mean(0), plain", x, x.mean(0), -16, 5);
        promise = 20;
        thrown("mean(6)", NO_SUCH, () -> x.mean(6));
        thrown("mean(-1)", NO_SUCH, () -> x.mean(-1));
        due("upper stays", x.upper(), -16);
        promise = 21;
        due("lower stays", x.lower(), 5);
        fraction("mean(5)", x, x.mean(5), 0, 0);
        NineOnGrass y = on("run 60; ball 0 way 4 pace 1 for 7;", 145);
        fraction("0 is 0 over 1", y, y.mean(0), 0, 1);
        NineOnGrass z = on("ball 0 way 4 pace 1 for 2 way 4 pace 1 air 8 for 1 way 0 pace 1 air 1 for 4;", 127);
        z.fielder(0, 9, 37, 0, 0);
        // 400, 400 and 63 times 4 less 20 times 37.
        fraction("mean of three", z, z.mean(0), (3 * 400 + 4 * (63 * 4 - 740)) / 4, 175);
    }

    private static void promises22to23() {
        promise = 22;
        NineOnGrass x = on(PLAIN, 148, 93);
        due("one(0, 0)", x.one(0, 0), 128);
        due("nobody moved", x.of(0, 0), 148);
        due("one without MEAN", x.one(0, 5), NONE);
        thrown("one(2, 0)", ILL, () -> x.one(2, 0));
        thrown("one(2, 5)", ILL, () -> x.one(2, 5));
        thrown("one(9, 0)", NO_SUCH, () -> x.one(9, 0));
        thrown("one(-1, 0)", NO_SUCH, () -> x.one(-1, 0));
        thrown("one(2, 6)", NO_SUCH, () -> x.one(2, 6));
        x.stand(2, 0);
        due("another isn't LAWFUL", x.one(0, 0), NONE);
        due("itself may be anywhere", x.one(2, 0) >= 0, true);
        NineOnGrass y = on("edge 2; near 3; ball 0 way 4 pace 1 for 1;", 145);
        due("no CELL far enough", y.one(0, 0), NONE);
        // All CELLS are alike: the least that is IN, free and near enough.
        NineOnGrass z = on("edge 2; run 1; ball 0 way 4 pace 9 for 1;", 145, 146);
        due("the least of like ones", z.one(0, 0), 110);
        z.stand(2, 110);
        due("the least of like ones that is free", z.one(0, 0), 126);
        due("also for another", z.one(2, 0), 110);
        z.stand(0, 110);
        due("the first has it", z.one(2, 0), 126);
        due("who is on the left already counts", on("edge 2; side 1; run 1; ball 0 way 4 pace 9 for 1;",
                143, 145, 110).one(1, 0), 127);
        due("but not if it goes itself", on("edge 2; side 1; run 1; ball 0 way 4 pace 9 for 1;",
                143, 145, 110).one(0, 0), 126);
        due("side counts", on("edge 2; side 0; run 1; ball 0 way 4 pace 9 for 1;", 145).one(0, 0), 110);
        promise = 23;
        due("settle(0, 0)", x.settle(0, 0), 0);
        x.stand(2, NONE);
        due("settle(0, 5)", x.settle(0, 5), 1);
        due("where it went", x.of(0, 0), 128);
        due("again", x.settle(0, 50), 0);
        due("settle without MEAN", x.settle(4, 50), 0);
        for (int n : new int[] {-1, 51, LEAST, GREATEST}) {
            thrown("settle(0, " + n + ")", BAD, () -> x.settle(0, n));
            thrown("settle(6, " + n + ")", NO_SUCH, () -> x.settle(6, n));
        }
        NineOnGrass s = on(PLAIN, 280, 8, 136);
        int moves = s.settle(0, 1);
        due("no more MOVES than that", moves, 1);
        due("the first went", s.of(0, 0) != 280, true);
        due("the others didn't", s.of(1, 0) == 8 && s.of(2, 0) == 136, true);
    }

    private static void promises24to25() {
        promise = 24;
        NineOnGrass x = on(PLAIN, 148, 93);
        // East: stopped at its first step, (2 and 1) by 9; north: caught by 80, stopped at step 4 for (12 and 4) by 9.
        fraction("bound(0), 0 and 20 times 1 less 1600 by 400", x, x.bound(0), -79, 20);
        fraction("bound(5)", x, x.bound(5), 0, 0);
        thrown("bound(6)", NO_SUCH, () -> x.bound(6));
        thrown("bound(-1)", NO_SUCH, () -> x.bound(-1));
        NineOnGrass y = on("edge 3; ball 0 way 4 pace 1 for 1 way 4 pace 1 air 4 for 2;");
        fraction("nobody there", y, y.bound(0), 16, 3);
        y.stand(3, 0);
        fraction("anywhere, though it stands outside", y, y.bound(0), 4, 1);
        y = on("edge 3; near 4; ball 0 way 4 pace 1 for 1 way 4 pace 1 air 2 for 2;", 147);
        fraction("no CELL is far enough", y, y.bound(0), 4, 1);
        y = on("near 5; run 3; ball 0 way 4 pace 1 air 2 for 1;", 149, 150);
        // From FAR 5 to the CELL of step 2: 3; step 3: 2, step 4: 1, step 5: 0.
        y.fielder(0, 3, 90, 10, 0);
        y.fielder(1, 1, 50, 20, 0);
        fraction("neither can catch; 1 stops at step 3, 0 at step 4", y, y.bound(0), 1, 1);
        y.fielder(1, 1, 50, 20, 9);
        fraction("by the ARM 0 is the better", y, y.bound(0), 1, 1);
        y = on("near 3; run 4; ball 0 way 4 pace 1 air 2 for 1;", 149, 150);
        y.fielder(0, 2, 90, 20, 9);
        y.fielder(1, 2, 90, 30, 0);
        fraction("the CATCH of one, 70, RUNS of the other, 0", y, y.bound(0), -14, 1);
        promise = 25;
        x.bound(0);
        fraction("gap(0)", x, x.gap(0), 3, 4);
        x.batter(1, 50);
        fraction("gap(0) of one who looks", x, x.gap(0), -11 * 2 + 79, 20);
        fraction("gap(5)", x, x.gap(5), 0, 0);
        thrown("gap(6)", NO_SUCH, () -> x.gap(6));
    }

    private static void promise26() {
        promise = 26;
        NineOnGrass x = on(PLAIN, 148, NONE, 93);
        x.way(0, 0);
        x.way(3, 0);
        due("kept", x.count(11), 9);
        x.stand(0, NONE);
        x.stand(1, 7);
        x.way(3, 0);
        x.way(0, 1);
        due("of(0, 0)", x.of(0, 0), 148);
        due("of(1, 0)", x.of(1, 0), NONE);
        due("of(2, 0)", x.of(2, 0), 93);
        x.way(3, 1);
        due("of(0, 0)", x.of(0, 0), NONE);
        due("of(1, 0)", x.of(1, 0), 7);
        for (int n : new int[] {-1, 4, LEAST, GREATEST}) {
            thrown("way(" + n + ", 7)", NO_SUCH, () -> x.way(n, 7));
            thrown("way(1, " + n + ")", BAD, () -> x.way(1, n));
        }
        thrown("way(1, 1)", ILL, () -> x.way(1, 1));
        thrown("way(1, 2)", BAD, () -> x.way(1, 2));
        due("of(1, 0)", x.of(1, 0), 7);
        due("kept", x.count(11), 9);
    }

    private static void promise27() {
        promise = 27;
        // Along the ground, east and west; 145 stops the one for 0, the other brings 4.
        NineOnGrass x = on("run 60; ball 0 way 4 pace 1 for 1 way 12 pace 1 for 99;", 145);
        x.way(0, 0);
        x.stand(0, 143);
        x.way(1, 0);
        fraction("half and half", x, x.rest(0, 1, 0, 0), 1, 2);
        fraction("VALUE", x, x.rest(0, 1, 0, 1), 2, 1);
        fraction("the same twice: the least p", x, x.rest(0, 0, 0, 0), 0, 1);
        fraction("VALUE", x, x.rest(0, 0, 0, 1), 4, 1);
        x.stand(1, 145);
        x.way(2, 0);
        fraction("all of the better", x, x.rest(2, 1, 0, 0), 1, 1);
        fraction("none of the worse", x, x.rest(1, 2, 0, 0), 0, 1);
        fraction("VALUE", x, x.rest(1, 2, 0, 1), 0, 1);
        x.rest(0, 1, 0, 0);
        thrown("rest(0, 3 ..)", ILL, () -> x.rest(0, 3, 0, 0));
        thrown("rest(3, 0 ..)", ILL, () -> x.rest(3, 0, 0, 0));
        thrown("rest(0, 3, 0, 2)", BAD, () -> x.rest(0, 3, 0, 2));
        thrown("rest(0, 1, 0, -1)", BAD, () -> x.rest(0, 1, 0, -1));
        thrown("rest(0, 1, 6, 2)", NO_SUCH, () -> x.rest(0, 1, 6, 2));
        thrown("rest(4, 1, 0, 2)", NO_SUCH, () -> x.rest(4, 1, 0, 2));
        thrown("rest(1, -1, 0, 2)", NO_SUCH, () -> x.rest(1, -1, 0, 2));
        due("the FRACTION stays", x.lower(), 2);
        fraction("rest without HITS", x, x.rest(0, 1, 3, 0), 0, 0);
        fraction("VALUE without HITS", x, x.rest(0, 1, 3, 1), 0, 0);
        // COST by a: 100, 400; by b: 400, 0: 400 less 300 p and 400 p are the same by 4 of 7.
        NineOnGrass y = on("run 12; ball 0 way 4 pace 6 for 1 way 12 pace 1 for 1;", 145 + 2 * 17 + 1);
        y.fielder(0, 9, 80, 10, 1);
        due("east", y.cost(0, 0), 100);
        due("west", y.cost(0, 1), 400);
        y.way(0, 0);
        y.stand(0, 143);
        due("east", y.cost(0, 0), 400);
        due("west", y.cost(0, 1), 0);
        y.way(1, 0);
        fraction("p", y, y.rest(0, 1, 0, 0), 4, 7);
        fraction("VALUE", y, y.rest(0, 1, 0, 1), 16, 7);
        fraction("p, the other way round", y, y.rest(1, 0, 0, 0), 3, 7);
    }

    private static void promises28to29() {
        promise = 28;
        NineOnGrass x = on(PLAIN, 144, 148, 100);
        x.way(0, 0);
        x.stand(0, 100);
        x.stand(1, NONE);
        x.stand(2, 146);
        x.stand(8, 144 + 17 * 4);
        x.way(1, 0);
        // 100 stays; 144 to 146 and 148 to 212 are 2 and 4, 144 to 212 and 148 to 146 are 4 and 2.
        due("walk(0, 1)", x.walk(0, 1), 6);
        due("walk(1, 0)", x.walk(1, 0), 6);
        due("walk(0, 0)", x.walk(0, 0), 0);
        x.stand(0, NONE);
        x.way(2, 0);
        due("not as many", x.walk(0, 2), NONE);
        due("not as many", x.walk(2, 0), NONE);
        thrown("walk(0, 3)", ILL, () -> x.walk(0, 3));
        thrown("walk(3, 0)", ILL, () -> x.walk(3, 0));
        thrown("walk(3, 4)", NO_SUCH, () -> x.walk(3, 4));
        thrown("walk(-1, 3)", NO_SUCH, () -> x.walk(-1, 3));
        NineOnGrass y = on("", 0, 1, 2, 3, 4, 5, 6, 7, 8);
        y.way(0, 0);
        for (int f = 0; f < 9; f++) {
            y.stand(f, 288 - f);
        }
        y.way(1, 0);
        due("nine from corner to corner", y.walk(0, 1), 9 * 16);
        for (int f = 0; f < 9; f++) {
            y.stand(f, 16 - f);
        }
        y.way(2, 0);
        due("nine along a row", y.walk(0, 2), 9 * 8);
        put(y, "");
        y.way(0, 0);
        due("nobody walks", y.walk(0, 0), 0);
        promise = 29;
        NineOnGrass z = on("run 60; ball 1 way 4 pace 1 for 1; ball 2 way 4 pace 1 for 9; "
                + "ball 4 way 12 pace 1 for 1 way 12 pace 1 air 8 for 1; ball 5 way 0 pace 1 air 9 for 1;"
                .replace("air 9", "air 8"));
        z.way(0, 0);
        z.stand(0, 145);
        z.way(1, 0);
        z.stand(0, 143);
        z.way(2, 0);
        due("the least of like ones", z.tells(0, 1), 1);
        due("none is above", z.tells(1, 0), NONE);
        due("the same", z.tells(0, 0), NONE);
        due("west by half", z.tells(0, 2), 4);
        due("east is told", z.tells(2, 1), 1);
        due("west is told", z.tells(1, 2), 4);
        thrown("tells(0, 3)", ILL, () -> z.tells(0, 3));
        thrown("tells(3, 0)", ILL, () -> z.tells(3, 0));
        thrown("tells(3, 4)", NO_SUCH, () -> z.tells(3, 4));
        thrown("tells(-1, 0)", NO_SUCH, () -> z.tells(-1, 0));
    }

    private static void promise30() {
        promise = 30;
        NineOnGrass x = on("run 60; ball 1 way 4 pace 1 for 1; ball 3 way 12 pace 1 for 9; ball 4 way 12 pace 1 for 1;");
        due("all alike", x.bowl(), 1);
        x.stand(0, 143);
        due("west", x.bowl(), 3);
        x.batter(4, 0);
        due("the other way", x.bowl(), 1);
        due("no BALL has HITS", on("").bowl(), NONE);
        NineOnGrass y = on("ball 0 way 4 pace 1 for 1 way 4 pace 1 air 8 for 2;ball 5 way 0 pace 1 air 2 for 1;", 110);
        due("below 0", y.bowl(), 5);
    }

    private static void promise31() {
        promise = 31;
        NineOnGrass x = on("run 60; ball 0 way 4 pace 1 for 1 way 12 pace 1 for 1;", 0, NONE, 161);
        row(x, 0, 1, 145, 143, 160, 7);
        x.fielder(1, 1, 80, 10, 0);
        due("alike: the first order", x.match(0, 0, 2, 0), 0);
        due("alike: the first order", x.match(0, 0, 2, 1), 1);
        x.fielder(0, 9, 80, 10, 9);
        row(x, 1, 2, 145 + 17 * 4, 143);
        // 0 is too slow for the far one.
        due("who is quick goes far", x.match(0, 1, 2, 0), 1);
        due("who is quick goes far", x.match(0, 1, 2, 1), 0);
        due("nobody moved", x.of(0, 0), 0);
        due("nobody came", x.of(1, 0), NONE);
        due("the BALL has no HITS", x.match(1, 1, 2, 0), NONE);
        row(x, 2, 1, 145, 145);
        due("twice the same CELL", x.match(0, 2, 2, 0), NONE);
        row(x, 2, 1, 145, 161);
        due("a CELL of one who stays", x.match(0, 2, 2, 0), NONE);
        due("it may be left by its own", x.match(0, 2, 1, 0), 0);
        due("0 is a CELL, but not IN", match0(x, 0, 145), NONE);
        due("only the first two are looked at", match0(x, 145, 143, 289, -1), 0);
        row(x, 2, 1, 289, 145);
        thrown("no CELL", BAD, () -> x.match(0, 2, 2, 0));
        thrown("no CELL, too few", BAD, () -> x.match(0, 2, 3, 0));
        row(x, 2, 1, -1, 145);
        thrown("NONE is no CELL", BAD, () -> x.match(0, 2, 1, 0));
        row(x, 2, 1, 145, 127, 110, 93, 76, 59);
        due("six", x.match(0, 2, 6, 5) >= 0, true);
        for (int n : new int[] {0, 7, -1, LEAST, GREATEST}) {
            thrown("match(.., " + n + ", 0)", BAD, () -> x.match(0, 2, n, 0));
        }
        thrown("i is n", BAD, () -> x.match(0, 2, 2, 2));
        thrown("i is below 0", BAD, () -> x.match(0, 2, 2, -1));
        thrown("i, too few", BAD, () -> x.match(0, 1, 3, 3));
        thrown("too few", OUTSIDE, () -> x.match(0, 1, 3, 2));
        thrown("MISSING", ILL, () -> x.match(0, 3, 9, 9));
        thrown("no such TRAY", NO_SUCH, () -> x.match(0, 4, 9, 9));
        thrown("no such TRAY", NO_SUCH, () -> x.match(0, -1, 1, 0));
        thrown("no such BALL", NO_SUCH, () -> x.match(6, 3, 1, 0));
        x.stand(2, 0);
        due("others aren't LAWFUL", x.match(0, 0, 2, 0), NONE);
    }

    private static int match0(NineOnGrass x, int... numbers) {
        row(x, 2, 1, numbers);
        return x.match(0, 2, 2, 0);
    }

    private static void promises32to34() {
        promise = 32;
        NineOnGrass x = on(PLAIN, 148, 93);
        fraction("worth(1, 0)", x, x.worth(1, 0), 21, 5);
        due("it is still there", x.of(1, 0), 93);
        fraction("worth(1, 1)", x, x.worth(1, 1), 4 - 3, 1);
        fraction("worth(1, 5)", x, x.worth(1, 5), 0, 0);
        thrown("worth(2, 0)", ILL, () -> x.worth(2, 0));
        thrown("worth(2, 5)", ILL, () -> x.worth(2, 5));
        thrown("worth(2, 6)", NO_SUCH, () -> x.worth(2, 6));
        thrown("worth(9, 0)", NO_SUCH, () -> x.worth(9, 0));
        promise = 33;
        fraction("brave where it is", x, x.brave(1, 0, 93), 0, 1);
        fraction("brave on the CELL of another", x, x.brave(1, 0, 148), 21, 5);
        fraction("brave outside", x, x.brave(1, 0, 0), 21, 5);
        // East it comes too late: 1200 instead of 300 by 400.
        fraction("brave at the BAT", x, x.brave(0, 0, 144), 9, 4);
        fraction("brave(1, 5, 3)", x, x.brave(1, 5, 3), 0, 0);
        fraction("brave in the last CELL", x, x.brave(1, 0, 288), 21, 5);
        thrown("brave(1, 0, 289)", BAD, () -> x.brave(1, 0, 289));
        thrown("brave(1, 0, NONE)", BAD, () -> x.brave(1, 0, NONE));
        thrown("brave(2, 0, 289)", ILL, () -> x.brave(2, 0, 289));
        thrown("brave(2, 6, 289)", NO_SUCH, () -> x.brave(2, 6, 289));
        thrown("brave(-1, 0, 289)", NO_SUCH, () -> x.brave(-1, 0, 289));
        due("nobody moved", x.of(0, 0), 148);
        promise = 34;
        NineOnGrass y = on("run 60; ball 0 way 4 pace 1 for 1;", 145);
        y.batter(1, 70);
        fraction("both(0, 0)", y, y.both(0, 0), 0, 1);
        fraction("both(0, 100)", y, y.both(0, 100), 4, 1);
        fraction("both(0, 33)", y, y.both(0, 33), 33, 25);
        fraction("both(1, 33)", y, y.both(1, 33), 0, 0);
        thrown("both(0, 101)", BAD, () -> y.both(0, 101));
        thrown("both(0, -1)", BAD, () -> y.both(0, -1));
        thrown("both(6, 101)", NO_SUCH, () -> y.both(6, 101));
        due("the BATTER stays", y.count(8), 1);
        // The present KIND has no part in it.
        NineOnGrass z = on("ball 0 way 4 pace 1 air 8 for 1 way 0 pace 1 air 1 for 3;", 152);
        z.fielder(0, 1, 50, 0, 0);
        for (int kind = 0; kind < 5; kind++) {
            z.batter(kind, 100);
            // North it is stopped for 0. East 50 times 4 less 1000 by 400, west 400 by 400.
            fraction("both(0, 50)", z, z.both(0, 50), -1, 2);
        }
    }

    private static void promises35to38() {
        promise = 35;
        NineOnGrass x = on(PLAIN);
        due("book", x.book(0, 0, 9), 9);
        due("book", x.book(0, 1, 16), 16);
        due("book", x.book(0, 1, 0), 16);
        for (int n : new int[] {-1, 10000, LEAST, GREATEST}) {
            thrown("book(0, 1, " + n + ")", BAD, () -> x.book(0, 1, n));
            thrown("book(0, 2, " + n + ")", NO_SUCH, () -> x.book(0, 2, n));
        }
        thrown("book(6, 0, 1)", NO_SUCH, () -> x.book(6, 0, 1));
        due("seen", x.hit(0, 1, 5), 16);
        due("book(1, 0, 9999)", x.book(1, 0, 9999), 9999);
        due("9999 at most", x.book(1, 0, 9999), 9999);
        promise = 37;
        fraction("ends, the least", x, x.ends(0, 1, false), 11, 25);
        fraction("ends, the greatest", x, x.ends(0, 1, true), 21, 25);
        fraction("ends of 9, the least", x, x.ends(0, 0, false), 1, 5);
        fraction("ends of 9, the greatest", x, x.ends(0, 0, true), 13, 25);
        fraction("not above 1", x, x.ends(1, 0, true), 1, 1);
        fraction("r of 9999 is 100", x, x.ends(1, 0, false), 9899, 9999);
        thrown("ends(0, 2 ..)", NO_SUCH, () -> x.ends(0, 2, true));
        thrown("ends(-1, 0 ..)", NO_SUCH, () -> x.ends(-1, 0, true));
        NineOnGrass y = on(PLAIN);
        y.mean(0);
        fraction("nothing was seen", y, y.ends(0, 0, true), 0, 0);
        y.book(0, 0, 3);
        fraction("of none: not below 0", y, y.ends(0, 1, false), 0, 1);
        fraction("of none: r is 1", y, y.ends(0, 1, true), 1, 3);
        fraction("of 3: r is 2", y, y.ends(0, 0, false), 1, 3);
        y.book(0, 0, 1);
        fraction("of 4: r is 3", y, y.ends(0, 0, false), 1, 4);
        promise = 38;
        due("enough(0, 1, 50)", x.enough(0, 1, 50), 1);
        due("enough(0, 1, 10)", x.enough(0, 1, 10), 12);
        due("enough(0, 1, 100)", x.enough(0, 1, 100), 1);
        due("enough(0, 1, 1): none", x.enough(0, 1, 1), NONE);
        due("nothing was seen", y.enough(1, 0, 100), NONE);
        NineOnGrass e = on(PLAIN);
        e.book(0, 1, 25);
        e.book(0, 0, 76);
        due("not before 101 times", e.enough(0, 1, 1), NONE);
        // 2 by 4 k is no more than w hundredths.
        due("enough(y, 0, 1, 50)", y.enough(0, 1, 50), 1);
        due("enough(y, 0, 1, 49)", y.enough(0, 1, 49), 2);
        due("enough(y, 0, 1, 1)", y.enough(0, 1, 1), 50);
        NineOnGrass z = on(PLAIN);
        z.book(1, 0, 1);
        // 2 times 10 by 91; by 100 it is 2 times 11, and 20 by 99 is above 20 hundredths.
        due("enough(z, 1, 0, 22)", z.enough(1, 0, 22), 91);
        due("enough(z, 1, 0, 20)", z.enough(1, 0, 20), NONE);
        z.book(0, 0, 1);
        due("2 by 100", z.enough(0, 1, 2), 100);
        due("not by 100", z.enough(0, 1, 1), NONE);
        z.book(0, 0, 1);
        due("2 by 200", z.enough(0, 1, 1), 100);
        for (int w : new int[] {0, 101, -1, LEAST, GREATEST}) {
            thrown("enough(0, 1, " + w + ")", BAD, () -> x.enough(0, 1, w));
            thrown("enough(0, 2, " + w + ")", NO_SUCH, () -> x.enough(0, 2, w));
        }
        thrown("enough(1, 0, 0), nothing was seen", BAD, () -> y.enough(1, 0, 0));
        promise = 36;
        due("learn(0)", x.learn(0), 25);
        due("for", x.hit(0, 0, 3), 9);
        due("for", x.hit(0, 1, 3), 16);
        due("for of another BALL", x.hit(1, 0, 3), 5);
        due("learn(1)", x.learn(1), 9999);
        due("99 at most", x.hit(1, 0, 3), 99);
        due("learn(5)", x.learn(5), 0);
        due("learn(1), nothing was seen", y.learn(1), 0);
        due("1 at least", y.hit(1, 0, 3), 1);
        thrown("learn(6)", NO_SUCH, () -> x.learn(6));
        thrown("learn(-1)", NO_SUCH, () -> x.learn(-1));
    }

    private static void promises39to41() {
        promise = 39;
        NineOnGrass x = on("ball 1 way 12 pace 1 for 5;", 76, 93);
        due("chase(true)", x.chase(true), false);
        due("chase(true)", x.chase(true), true);
        due("chase(false)", x.chase(false), true);
        promise = 40;
        // The west one is never stopped: 93 is nearest to its last CELL, 136, but CHASE is off.
        x.stand(0, NONE);
        x.fielder(1, 9, 80, 10, 1);
        due("play(1, 5, 1)", x.play(1, 5, 1), 20);
        due("nobody moved", x.of(1, 0), 93);
        x.chase(true);
        due("play(1, 1, 1)", x.play(1, 1, 1), 4);
        due("it went to the last CELL", x.of(1, 0), 136);
        due("SCORE", x.score(0), 24);
        for (int n : new int[] {0, 61, -1, LEAST, GREATEST}) {
            thrown("play(1, " + n + ", 1)", BAD, () -> x.play(1, n, 1));
            thrown("play(5, " + n + ", 1)", BAD, () -> x.play(5, n, 1));
            thrown("play(6, " + n + ", 1)", NO_SUCH, () -> x.play(6, n, 1));
        }
        due("no HITS", x.play(5, 60, 1), NONE);
        promise = 41;
        due("PLAYED", x.score(3), 6);
        due("fours", x.score(2), 6);
        due("OUTS", x.score(1), 0);
        for (int what : new int[] {-1, 4, LEAST, GREATEST}) {
            due("score(" + what + ")", x.score(what), NONE);
        }
        promise = 40;
        draws();
        chased();
    }

    /** DRAWS of seed 1: 1103527590 >>> 16 is 16838; then 2524885223, 38526; then 662824084, 10113. */
    private static void draws() {
        NineOnGrass x = on("run 60; ball 0 way 4 pace 1 for 38 way 12 pace 1 air 8 for 62;", 145);
        // 16838 mod 100 is 38: the second HIT (4), the first is laid on 0 to 37.
        due("the second", x.play(0, 1, 1), 4);
        put(x, "run 60; ball 0 way 4 pace 1 for 39 way 12 pace 1 air 8 for 61;");
        x.stand(0, 145);
        due("the first", x.play(0, 1, 1), 0);
        // One who looks draws first: 38 is below 39, not below 38.
        x.batter(1, 39);
        due("the dearest", x.play(0, 1, 1), 4);
        x.batter(1, 38);
        due("not the dearest: 38526 mod 100 is 26", x.play(0, 1, 1), 0);
        x.batter(0, 100);
        due("who doesn't look makes no first DRAW", x.play(0, 1, 1), 0);
        // The CATCH is drawn behind the HIT: 26 of 38526.
        NineOnGrass y = on("run 60; ball 0 way 0 pace 3 air 3 for 1;", 93);
        y.fielder(0, 3, 27, 0, 0);
        due("26 is below 27", y.play(0, 1, 1), 0);
        due("OUT", y.score(1), 1);
        due("RUNS", y.score(0), 0);
        y.fielder(0, 3, 26, 0, 0);
        due("26 isn't below 26", y.play(0, 1, 1), 4);
        due("OUT", y.score(1), 1);
        due("fours", y.score(2), 1);
        // Without a CATCH above 0 there is no such DRAW: the next HIT is by 38526.
        NineOnGrass z = on("run 60; ball 0 way 4 pace 1 for 27 way 12 pace 1 for 73;", 145);
        due("38 and 26", z.play(0, 2, 1), 4);
        due("38, 26 and 13", z.play(0, 3, 1), 4);
        due("PLAYED", z.score(3), 5);
        z.stand(0, 145);
        put(z, "ball 0 way 4 pace 1 air 8 for 1;");
        z.batter(4, 0);
        due("sixty", z.play(0, 60, -7), 240);
        put(z, "edge 4; ball 0 way 4 pace 1 air 8 for 1;");
        due("sixes", z.play(0, 2, -7), 12);
        due("fours and sixes", z.score(2), 2);
    }

    private static void chased() {
        // Two as near: the least; it doesn't go where another is, nor who isn't the nearest.
        NineOnGrass x = on("ball 0 way 4 pace 1 air 8 for 1;", NONE, 152 - 17 - 1, 152 + 17 - 1);
        x.fielder(1, 9, 0, 10, 1);
        x.fielder(2, 9, 0, 10, 1);
        x.chase(true);
        due("four", x.play(0, 1, 0), 4);
        due("the least went", x.of(1, 0), 152);
        due("the other didn't", x.of(2, 0), 152 + 17 - 1);
        due("it stays there", x.play(0, 3, 0), 12);
        due("still", x.of(1, 0), 152);
        // Not if not all are LAWFUL then.
        x.stand(5, 0);
        x.stand(1, 151);
        due("four", x.play(0, 1, 0), 4);
        due("nobody went", x.of(1, 0), 151);
        x.stand(5, NONE);
        due("six over the edge", putAndPlay(x, "edge 6; ball 0 way 4 pace 1 air 7 for 1;", 147), 6);
        due("it went to the last CELL", x.of(0, 0), 150);
        due("no STEPS", putAndPlay(x, "edge 2; ball 0 way 1 pace 1 for 1;", 146), 4);
        due("nobody went", x.of(0, 0), 146);
        due("nobody there", putAndPlay(x, "ball 0 way 1 pace 1 for 1;", NONE), 4);
        due("less than four", putAndPlay(x, "ball 0 way 4 pace 9 for 1;", 145), 1);
        due("nobody went", x.of(0, 0), 145);
        // The next BALL is PLAYED with who went in its new place: hands 0, a CATCHER all the same.
        due("three fours: they come closer, but don't stop", putAndPlay(x, "ball 0 way 4 pace 1 for 1;", 8), 4);
        due("it went", x.of(0, 0), 152);
        x.fielder(0, 1, 80, 10, 0);
        due("and stops the next", x.play(0, 1, 0), 0);
    }

    private static int putAndPlay(NineOnGrass x, String text, int cell) {
        put(x, text);
        x.stand(0, cell);
        return x.play(0, 1, 0);
    }

    private static void promises42to44() {
        promise = 42;
        NineOnGrass x = on(PLAIN);
        x.tray(0, 0, 40);
        x.tray(1, 3, 0);
        due("0 at first", x.write(0, 39, 0), 0);
        for (int n : new int[] {-1, 4, LEAST, GREATEST}) {
            thrown("tray(" + n + " ..)", NO_SUCH, () -> x.tray(n, 9, 99));
            thrown("tray(0, " + n + " ..)", BAD, () -> x.tray(0, n, 1));
            thrown("write(" + n + " ..)", NO_SUCH, () -> x.write(n, 99, 0));
            thrown("pour(" + n + ")", NO_SUCH, () -> x.pour(n));
        }
        for (int n : new int[] {-1, 41, LEAST, GREATEST}) {
            thrown("tray(0, 0, " + n + ")", BAD, () -> x.tray(0, 0, n));
        }
        promise = 43;
        due("the row stays", x.write(0, 39, 7), 7);
        thrown("write(0, 40, 0)", OUTSIDE, () -> x.write(0, 40, 0));
        thrown("write(0, -1, 0)", OUTSIDE, () -> x.write(0, -1, 0));
        thrown("write(1, 0, 0)", OUTSIDE, () -> x.write(1, 0, 0));
        thrown("write(2, 99, 0)", ILL, () -> x.write(2, 99, 0));
        long v = 0x1234567890abcdefL;
        long[] cuts = {(byte) 0xef, (short) 0xcdef, 0x90abcdef, v};
        long[] ends = {-128, -32768, LEAST, Long.MIN_VALUE};
        for (int sort = 0; sort < 4; sort++) {
            x.tray(2, sort, 3);
            due("cut to sort " + sort, x.write(2, 1, v), cuts[sort]);
            due("NONE in sort " + sort, x.write(2, 2, -1), -1);
            due("the end of sort " + sort, x.write(2, 0, ends[sort]), ends[sort]);
        }
        promise = 44;
        row(x, 0, 2, 93, -1, 288);
        x.stand(1, 5);
        x.stand(3, 6);
        due("pour(0)", x.pour(0), 3);
        int[] stands = {93, -1, 288, 6};
        for (int f = 0; f < 4; f++) {
            due("of(" + f + ", 0)", x.of(f, 0), stands[f]);
        }
        thrown("MISSING", ILL, () -> x.pour(3));
        row(x, 3, 1, 1, 2, 289);
        thrown("no CELL", BAD, () -> x.pour(3));
        row(x, 3, 1, 1, 2, -2);
        thrown("no CELL", BAD, () -> x.pour(3));
        row(x, 3, 3, 1, 2, 3);
        x.write(3, 2, 1L << 32);
        thrown("no CELL", BAD, () -> x.pour(3));
        row(x, 3, 1, 1, 2, 3, 4, 5, 6, 7, 8, 9, 10);
        thrown("more than 9", BAD, () -> x.pour(3));
        due("nobody moved", x.of(0, 0), 93);
        row(x, 3, 1, 1, 2, 3, 4, 5, 6, 7, 8, 9);
        due("pour(3)", x.pour(3), 9);
        due("of(8, 0)", x.of(8, 0), 9);
        due("an empty TRAY", x.pour(1), 0);
        x.tray(3, 1, 9);
        due("0 is a CELL", x.pour(3), 9);
        due("of(8, 0)", x.of(8, 0), 0);
    }

    private static void promises45to46() {
        promise = 45;
        NineOnGrass x = on("edge 7;" + PLAIN, 148, 93);
        x.fielder(0, 5, 60, 20, 2);
        x.batter(1, 20);
        x.way(1, 0);
        x.book(0, 1, 5);
        x.learn(0);
        x.play(1, 2, 1);
        x.image(2);
        for (int n : new int[] {-1, 3, LEAST, GREATEST}) {
            thrown("image(" + n + ")", NO_SUCH, () -> x.image(n));
        }
        promise = 46;
        x.chase(true);
        x.tray(0, 0, 3);
        x.mean(0);
        long up = x.upper();
        long low = x.lower();
        put(x, "edge 9;");
        put(x, "run 8; slow 2 at 9;");
        x.fielder(0, 1, 1, 1, 1);
        x.batter(4, 4);
        put(x, "!");
        x.feed(1, 2, 3, 4, 5);
        thrown("restore(0)", ILL, () -> x.restore(0));
        thrown("restore(3)", NO_SUCH, () -> x.restore(3));
        thrown("restore(-1)", NO_SUCH, () -> x.restore(-1));
        due("edge", x.count(1), 8);
        x.restore(2);
        int[] counts = {3, 7, 9, 20, 9, 1, 2, 20, 1, 20, 0, 2};
        for (int what = 0; what < counts.length; what++) {
            due("count(" + what + ")", x.count(what), counts[what]);
        }
        due("slow", x.count(109), 0);
        due("pace", x.of(0, 1), 5);
        due("hands", x.of(0, 2), 60);
        due("per", x.of(0, 3), 20);
        due("arm", x.of(0, 4), 2);
        due("stand", x.of(1, 0), 93);
        due("seen", x.hit(0, 1, 5), 5);
        due("for", x.hit(0, 0, 3), 1);
        due("for", x.hit(0, 1, 3), 5);
        due("PLAYED", x.score(3), 2);
        due("the FAULT", x.fault(0), 1);
        due("the FRACTION", x.upper(), up);
        due("the FRACTION", x.lower(), low);
        due("the TRAY", x.write(0, 2, 9), 9);
        x.stand(0, NONE);
        x.way(1, 1);
        due("the WAY TO STAND", x.of(0, 0), 148);
        x.image(0);
        x.stand(0, 7);
        x.image(2);
        x.restore(0);
        due("image 0", x.of(0, 0), 148);
        x.restore(2);
        due("image 2, made anew", x.of(0, 0), 7);
    }

    private static void promise47() {
        promise = 47;
        NineOnGrass x = on("edge 6; run 7; worth 8; side 5; near 2; slow 12 at 0 144 288;", 148, NONE, 93);
        x.way(0, 0);
        x.way(2, 0);
        x.batter(2, 77);
        x.chase(true);
        x.feed(0, 0, 0, 0, 0);
        int[] counts = {6, 6, 7, 8, 5, 2, 2, 20, 2, 77, 1, 5};
        for (int what = 0; what < counts.length; what++) {
            due("count(" + what + ")", x.count(what), counts[what]);
        }
        for (int cell = 0; cell < 289; cell++) {
            due("slow of " + cell, x.count(100 + cell), cell % 144 == 0 ? 12 : 0);
        }
        for (int what : new int[] {-1, 12, 99, 389, LEAST, GREATEST}) {
            due("count(" + what + ")", x.count(what), NONE);
        }
    }

    /** What README.md shows. */
    private static void readme() {
        promise = 0;
        NineOnGrass grass = new NineOnGrass();
        grass.feed(0x65646765, 0x20383b20, 0x62616c6c, 0x20302077, 0x61792034);
        grass.feed(0x20706163, 0x65203220, 0x666f7220, 0x313b2020, 0x20202020);
        due("field(36)", grass.field(36), 2);
        due("stand(0, 149)", grass.stand(0, 149), NONE);
        due("runs(0, 0)", grass.runs(0, 0), 1);
        fraction("mean(0)", grass, grass.mean(0), 1, 1);
    }
}
