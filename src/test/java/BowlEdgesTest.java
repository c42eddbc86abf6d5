/** The edges of who bowls and who stands where: promises 30 to 34. */
public final class BowlEdgesTest extends Due {
    /** East for 0 with one at 145, else 4; BALL 5 has no HITS. */
    private static final String EAST = "run 60;ball 0 way 4 pace 1 for 1;";

    public static void main(String[] args) {
        run(BowlEdgesTest.class);
    }

    // ---- promise 30: bowl

    @Says({"BOWLED: the BALL with HITS with the least MEAN, then the least.", "BOWLED; NONE: no BALL has HITS."})
    static void p30_the_least_mean_then_the_least_none_no_ball_has_hits() {
        due("no BALL has HITS", on("edge 7;").bowl(), NONE);
        due("no text", new NineOnGrass().bowl(), NONE);
        for (int ball = 0; ball <= 5; ball++) {
            due("one alone", on("ball " + ball + " way 4 pace 1 for 1;").bowl(), ball);
        }
        due("alike: the least", on("ball 2 way 4 pace 1 for 1;ball 4 way 4 pace 1 for 9;ball 1 way 8 pace 1 for 1;").bowl(), 1);
        String east = " way 4 pace 1 for ";
        String west = " way 12 pace 1 air 8 for ";
        String text = "run 60;ball 0" + east + "2" + west + "1;ball 1" + east + "3" + west + "1;ball 2" + east + "6" + west + "2;"
                + "ball 3" + east + "1" + west + "1;";
        due("4 by 3, 1, 1, 2: the lesser of like ones", on(text, at(1, 0)).bowl(), 1);
        due("4 of each", on(text).bowl(), 0);
        due("below 0", on(text + "ball 5 way 0 pace 1 air 1 for 1;", at(0, -1)).bowl(), 5);
        NineOnGrass x = on(text, at(1, 0));
        x.batter(1, 100);
        due("of one who looks 4 of each", x.bowl(), 0);
        x = on("edge 2;ball 0 way 4 pace 1 air 3 for 1;ball 3 way 4 pace 1 for 1;");
        due("6 and 4", x.bowl(), 3);
    }

    // ---- promise 31: match

    @Says({"MATCHED: n CELLS in a TRAY (1 to 6) for FIELDERS 0 to n less 1 (others as they are)",
        "IllegalArgumentException: n, i (0 to n less 1), a number that is no CELL"})
    static void p31_n_1_to_6_i_0_to_n_less_1() {
        NineOnGrass x = on(EAST, 0, 0, 0, 0, 0, 0);
        row(x, 2, 1, at(5, 0), at(5, 1), at(5, 2), at(5, 3), at(5, 4), at(5, 5));
        for (int f = 1; f <= 6; f++) {
            x.stand(f, f < 6 ? NONE : at(6, 0));
        }
        for (int n = 1; n <= 6; n++) {
            int many = n;
            for (int i = 0; i < n; i++) {
                due("match(0, 2, " + n + ", " + i + ")", x.match(0, 2, n, i), i);
            }
            for (int i : new int[] {-1, n, LEAST, GREATEST}) {
                refused("match(0, 2, " + n + ", " + i + ")", BAD, () -> x.match(0, 2, many, i));
            }
        }
        for (int n : new int[] {0, 7, -1, LEAST, GREATEST}) {
            refused("match(0, 2, " + n + ", 0)", BAD, () -> x.match(0, 2, n, 0));
            refused("match(0, 2, " + n + ", " + (n - 1) + ")", BAD, () -> x.match(0, 2, n, n - 1));
        }
        due("nobody went", x.of(0, 0), 0);
    }

    @Says({"a number that is no CELL", "CELLS 0 to 288"})
    static void p31_a_number_that_is_no_cell() {
        NineOnGrass x = on(EAST, at(1, 1), at(1, 2));
        long[] none = {-1, 289, -2, Integer.MIN_VALUE, Integer.MAX_VALUE, Long.MIN_VALUE, Long.MAX_VALUE, 1L << 32, (1L << 32) + 145};
        for (long n : none) {
            row(x, 0, 3, n, at(1, 0));
            refused("the first is " + n, BAD, () -> x.match(0, 0, 2, 0));
            row(x, 0, 3, at(1, 0), n);
            refused("the last is " + n, BAD, () -> x.match(0, 0, 2, 0));
            refused("the last is " + n + ", and too few", BAD, () -> x.match(0, 0, 3, 0));
        }
        for (int n : new int[] {0, 288}) {
            row(x, 0, 3, at(1, 0), n);
            due(n + " is a CELL, but isn't IN", x.match(0, 0, 2, 0), NONE);
        }
        row(x, 0, 0, 127, 126);
        due("of 8 bits", x.match(0, 0, 2, 1) >= 0, true);
    }

    @Says({"IndexOutOfBoundsException: it has fewer than n.", "IllegalStateException: it is MISSING",
        "NoSuchElementException: the BALL, no such TRAY (as below)"})
    static void p31_it_has_fewer_than_n_missing_no_such_tray() {
        NineOnGrass x = on(EAST, at(1, 1));
        for (int many = 0; many <= 7; many++) {
            long[] cells = {at(4, 0), at(4, 1), at(4, 2), at(4, 3), at(4, 4), at(4, 5), at(5, 0)};
            row(x, 1, 1, java.util.Arrays.copyOf(cells, many));
            for (int n = 1; n <= 6; n++) {
                int want = n;
                if (n > many) {
                    refused(many + " for " + n, OUTSIDE, () -> x.match(0, 1, want, 0));
                } else {
                    due(many + " for " + n, x.match(0, 1, n, 0) >= 0, true);
                }
            }
        }
        for (int tray : new int[] {0, 2, 3}) {
            refused("match(0, " + tray + ", 1, 0)", ILL, () -> x.match(0, tray, 1, 0));
        }
        for (int tray : NO_TRAYS) {
            refused("match(0, " + tray + ", 1, 0)", NO_SUCH, () -> x.match(0, tray, 1, 0));
        }
        for (int ball : NO_BALLS) {
            refused("match(" + ball + ", 1, 1, 0)", NO_SUCH, () -> x.match(ball, 1, 1, 0));
        }
    }

    @Says({"of all orders in which these stand on them LAWFULLY that with the least MEAN of a BALL",
        "MATCHED: the place in the TRAY of FIELDER i; NONE: by no order, no MEAN."})
    static void p31_none_by_no_order_no_mean() {
        NineOnGrass x = on("side 1;near 2;edge 5;" + EAST, at(1, 1), NONE, at(0, 2));
        due("LAWFUL", matched(x, at(2, 0), at(2, 1)), 0);
        due("no MEAN", x.match(1, 0, 2, 0), NONE);
        due("twice one CELL", matched(x, at(2, 0), at(2, 0)), NONE);
        due("not IN", matched(x, at(2, 0), at(5, 1)), NONE);
        due("just IN", matched(x, at(2, 0), at(4, 3)), 0);
        due("too near", matched(x, at(2, 0), at(1, 1)), NONE);
        due("two on the left", matched(x, at(-2, 0), at(-2, 1)), NONE);
        due("one on the left", matched(x, at(-2, 0), at(2, 1)), 0);
        due("where one stands who stays", matched(x, at(2, 0), at(0, 2)), NONE);
        x.stand(1, at(3, 3));
        due("where one stood who goes", matched(x, at(2, 0), at(3, 3)), 0);
        due("1 stays, 0 goes there", x.match(0, 0, 1, 0), 0);
        due("1 stays where 0 would go", one(x, at(3, 3)), NONE);
        due("0 goes where it is", one(x, at(2, 2)), 0);
        x.stand(2, 0);
        due("one who stays isn't IN", one(x, at(2, 2)), NONE);
        x.stand(2, NONE);
        x.stand(1, 0);
        due("one who goes wasn't IN", matched(x, at(2, 0), at(2, 1)), 0);
    }

    private static int matched(NineOnGrass x, long a, long b) {
        row(x, 0, 2, a, b);
        return x.match(0, 0, 2, 0);
    }

    private static int one(NineOnGrass x, long a) {
        row(x, 0, 2, a);
        return x.match(0, 0, 1, 0);
    }

    @Says("of like ones the first (FIELDER 0's place in the TRAY, then 1's ..)")
    static void p31_of_like_ones_the_first() {
        NineOnGrass x = on(EAST);
        // Only from the CELL 2 east and 2 south of the BAT, and only with PACE 1, somebody comes in time.
        row(x, 0, 1, at(-5, 0), at(2, 2), at(-5, 1));
        int[][] orders = {{1, 0, 2}, {0, 1, 2}, {0, 2, 1}};
        for (int quick = 0; quick < 3; quick++) {
            for (int f = 0; f < 3; f++) {
                x.fielder(f, f == quick ? 1 : 9, 80, 10, 1);
            }
            for (int i = 0; i < 3; i++) {
                due("FIELDER " + i + ", " + quick + " is quick", x.match(0, 0, 3, i), orders[quick][i]);
            }
        }
        x.fielder(2, 9, 80, 10, 1);
        for (int i = 0; i < 3; i++) {
            due("none is quick: " + i, x.match(0, 0, 3, i), i);
        }
        // The last order of all is the only best one.
        row(x, 0, 1, at(2, 2), at(-5, 1), at(-5, 0));
        x.fielder(2, 1, 80, 10, 1);
        int[] want = {1, 2, 0};
        for (int i = 0; i < 3; i++) {
            due("2 is quick: " + i, x.match(0, 0, 3, i), want[i]);
        }
    }

    @Says("for FIELDERS 0 to n less 1 (others as they are)")
    static void p31_others_as_they_are() {
        // FIELDER 1 stops the eastern ball where it is; only the western one is left for 0.
        NineOnGrass x = on("run 60;ball 0 way 4 pace 1 for 1 way 12 pace 1 for 1;", NONE, at(1, 0));
        x.fielder(0, 9, 80, 10, 1);
        x.fielder(1, 1, 80, 10, 1);
        row(x, 0, 1, at(-1, 0), at(5, 5));
        due("0 alone, on the first CELL", x.match(0, 0, 1, 0), 0);
        due("0 of two", x.match(0, 0, 2, 0), 0);
        row(x, 0, 1, at(5, 5), at(-1, 0), at(1, 0));
        due("0 of three", x.match(0, 0, 2, 0), 1);
        due("nobody went", x.of(0, 0), NONE);
        due("nobody went", x.of(1, 0), at(1, 0));
    }

    @Says("of all orders in which these stand on them LAWFULLY that with the least MEAN of a BALL")
    static void p31_as_each_order_by_itself_tells() {
        long[][] trays = {{at(2, 0), at(-3, 1), at(0, -3), at(3, 3)}, {at(1, -1), at(2, -1), at(3, -1), at(-2, 2)},
            {at(-4, 0), at(0, 4), at(0, -4), at(4, 0)}};
        for (long[] tray : trays) {
            for (int kind = 0; kind <= 4; kind++) {
                int[] best = leastOrder(tray, kind);
                for (int i = 0; i < 4; i++) {
                    NineOnGrass x = four(kind);
                    row(x, 0, 2, tray);
                    due("KIND " + kind + ", FIELDER " + i, x.match(0, 0, 4, i), best[i]);
                }
            }
        }
    }

    private static NineOnGrass four(int kind) {
        NineOnGrass x = on("worth 7;ball 0 way 4 pace 3 air 2 for 3 way 10 pace 2 for 2 way 0 pace 2 air 3 for 1 way 6 pace 2 for 2;");
        x.fielder(0, 2, 70, 10, 2);
        x.fielder(1, 1, 40, 5, 0);
        x.fielder(2, 3, 95, 30, 5);
        x.stand(8, at(0, 6));
        x.batter(kind, 40);
        return x;
    }

    private static int[] leastOrder(long[] tray, int kind) {
        int[] best = null;
        long up = 0;
        long low = 1;
        for (int code = 0; code < 256; code++) {
            int[] order = {code >> 6, code >> 4 & 3, code >> 2 & 3, code & 3};
            NineOnGrass x = four(kind);
            for (int f = 0; f < 4; f++) {
                x.stand(f, (int) tray[order[f]]);
            }
            if (x.judge() != NONE || !x.mean(0)) {
                continue;
            }
            if (best == null || x.upper() * low < up * x.lower()) {
                best = order;
                up = x.upper();
                low = x.lower();
            }
        }
        return best == null ? new int[] {NONE, NONE, NONE, NONE} : best;
    }

    // ---- promise 32: worth

    @Says({"WORTH of a FIELDER: MEAN without it less MEAN.", "WORTH is the FRACTION: true; no MEAN 0 over 0: false."})
    static void p32_mean_without_it_less_mean() {
        NineOnGrass x = on(EAST, at(1, 0), at(-1, 0));
        fraction("worth(0, 0)", x, x.worth(0, 0), 4, 1);
        fraction("of no use: 0 over 1", x, x.worth(1, 0), 0, 1);
        noFraction("no MEAN", x, x.worth(0, 5));
        due("it is still there", x.of(0, 0), at(1, 0));
        x.stand(1, at(2, 0));
        fraction("another would do: 2 and 2 by 60", x, x.worth(0, 0), 0, 1);
        // Whose CATCH is 0 keeps another from it: 3 with it, 30 times 4 less 1400 without.
        x = on("ball 0 way 4 pace 9 air 2 for 1;", at(2, 0), at(2, 1));
        x.fielder(0, 3, 0, 10, 1);
        fraction("below 0", x, x.worth(0, 0), -79, 5);
    }

    @Says({"no such FIELDER (as everywhere)", "it isn't there (as below)", "no such BALL (0 to 5; as everywhere)"})
    static void p32_it_isnt_there() {
        NineOnGrass x = on(EAST, at(1, 0), NONE, NONE, NONE, NONE, NONE, NONE, NONE, at(3, 0));
        for (int f = 1; f <= 7; f++) {
            int who = f;
            refused("worth(" + f + ", 0)", ILL, () -> x.worth(who, 0));
            refused("brave(" + f + ", 0, 0)", ILL, () -> x.brave(who, 0, 0));
        }
        refused("worth(1, 5), no MEAN", ILL, () -> x.worth(1, 5));
        refused("brave(1, 5, 289), no MEAN, no CELL", ILL, () -> x.brave(1, 5, 289));
        fraction("worth(8, 0)", x, x.worth(8, 0), 0, 1);
        for (int f : NO_FIELDERS) {
            refused("worth(" + f + ", 0)", NO_SUCH, () -> x.worth(f, 0));
            refused("brave(" + f + ", 0, 289)", NO_SUCH, () -> x.brave(f, 0, 289));
        }
        for (int ball : NO_BALLS) {
            refused("worth(1, " + ball + ")", NO_SUCH, () -> x.worth(1, ball));
            refused("brave(1, " + ball + ", 289)", NO_SUCH, () -> x.brave(1, ball, 289));
        }
    }

    // ---- promise 33: brave

    @Says({"BRAVE: MEAN as if it stood on a CELL (LAWFUL or not) less MEAN.", "BRAVE is the FRACTION: likewise."})
    static void p33_lawful_or_not() {
        NineOnGrass x = on("side 0;edge 5;" + EAST, at(1, 0), at(0, 3));
        fraction("where it is", x, x.brave(0, 0, at(1, 0)), 0, 1);
        fraction("not IN", x, x.brave(0, 0, at(8, 8)), 4, 1);
        fraction("not IN, but near enough", x, x.brave(0, 0, at(6, 0)), 0, 1);
        fraction("too near", x, x.brave(0, 0, 144), 4, 1);
        fraction("on the CELL of another", x, x.brave(0, 0, at(0, 3)), 4, 1);
        fraction("one too many on the left", x, x.brave(0, 0, at(-1, 0)), 4, 1);
        fraction("1 to the CELL of 0: 0 is first", x, x.brave(1, 0, at(1, 0)), 0, 1);
        x.stand(0, 0);
        fraction("from where it isn't LAWFUL", x, x.brave(1, 0, at(1, 0)), -4, 1);
        noFraction("no MEAN", x, x.brave(1, 5, at(1, 0)));
        stands("nobody went", x, 0, at(0, 3));
    }

    @Says({"IllegalArgumentException: no such CELL.", "CELLS 0 to 288"})
    static void p33_no_such_cell() {
        NineOnGrass x = on(EAST, at(1, 0));
        fraction("0", x, x.brave(0, 0, 0), 4, 1);
        fraction("288", x, x.brave(0, 0, 288), 4, 1);
        for (int cell : new int[] {-1, 289, -2, LEAST, GREATEST}) {
            refused("brave(0, 0, " + cell + ")", BAD, () -> x.brave(0, 0, cell));
            refused("brave(0, 5, " + cell + "), no MEAN", BAD, () -> x.brave(0, 5, cell));
        }
        due("the FRACTION stays", x.upper(), 4);
    }

    // ---- promise 34: both

    @Says({"BOTH HANDS, so many hundredths left: these of MEAN as it were with a BATTER of KIND 4, "
        + "the others of that with a plain one.", "BOTH HANDS are the FRACTION: likewise. IllegalArgumentException: the hundredths."})
    static void p34_hundredths_0_to_100() {
        NineOnGrass x = on(EAST, at(1, 0));
        int[][] cases = {{0, 0, 1}, {1, 1, 25}, {50, 2, 1}, {99, 99, 25}, {100, 4, 1}};
        for (int kind = 0; kind <= 4; kind++) {
            x.batter(kind, 100);
            for (int[] c : cases) {
                fraction("left " + c[0] + ", by kind " + kind, x, x.both(0, c[0]), c[1], c[2]);
            }
            counts("the BATTER stays", x, 8, kind, 100);
        }
        for (int left : new int[] {-1, 101, LEAST, GREATEST}) {
            refused("both(0, " + left + ")", BAD, () -> x.both(0, left));
            refused("both(5, " + left + ")", BAD, () -> x.both(5, left));
        }
        noFraction("without HITS", x, x.both(5, 50));
        for (int ball : NO_BALLS) {
            refused("both(" + ball + ", 0)", NO_SUCH, () -> x.both(ball, 0));
            refused("both(" + ball + ", 101)", NO_SUCH, () -> x.both(ball, 101));
        }
        x.stand(0, at(-1, 0));
        fraction("the other side", x, x.both(0, 1), 99, 25);
        NineOnGrass z = on("run 60;ball 0 way 4 pace 1 for 1 way 12 pace 1 air 8 for 3;", at(1, 0));
        z.batter(1, 100);
        fraction("as who doesn't look, right", z, z.both(0, 0), 3, 1);
        fraction("as who doesn't look, left", z, z.both(0, 100), 4, 1);
        NineOnGrass y = on("ball 0 way 4 pace 9 air 2 for 1;", at(2, 0));
        y.fielder(0, 9, 80, 10, 1);
        fraction("below 0: 4 of the left, 80 less 1600 of the right", y, y.both(0, 50), -28, 5);
    }
}
