/** The edges of THE BOOK, DRAWS, PLAYED BALLS, CHASE and SCORE: promises 35 to 41. */
public final class BookEdgesTest extends Due {
    private static final String TWO = "ball 0 way 4 pace 1 for 50 way 12 pace 1 for 50;ball 5 way 4 pace 1 for 7;";

    public static void main(String[] args) {
        run(BookEdgesTest.class);
    }

    // ---- promise 35: book

    @Says({"THE BOOK: how often each HIT of each BALL was seen (0 to 9999 each; 0 at first).",
        "how often it is in THE BOOK then (9999 at most)"})
    static void p35_9999_at_most() {
        NineOnGrass x = on(TWO);
        int[][] steps = {{0, 0}, {1, 1}, {0, 1}, {9997, 9998}, {1, 9999}, {0, 9999}, {1, 9999}, {9999, 9999}};
        for (int[] s : steps) {
            due("book(0, 1, " + s[0] + ")", x.book(0, 1, s[0]), s[1]);
            due("hit(0, 1, 5)", x.hit(0, 1, 5), s[1]);
        }
        due("of another HIT", x.hit(0, 0, 5), 0);
        due("of another BALL", x.hit(5, 0, 5), 0);
        due("all at once", x.book(5, 0, 9999), 9999);
        x = on("ball 0" + " way 4 pace 1 for 1".repeat(8) + ";ball 5" + " way 4 pace 1 for 1".repeat(8) + ";");
        for (int hit = 0; hit < 8; hit++) {
            due("the last BALL", x.book(5, hit, 10 + hit), 10 + hit);
        }
        for (int hit = 0; hit < 8; hit++) {
            due("the first BALL", x.book(0, hit, 1), 1);
            due("the last BALL", x.hit(5, hit, 5), 10 + hit);
        }
        x = on(TWO);
        x.book(0, 0, 9998);
        due("2 more than 9998", x.book(0, 0, 2), 9999);
    }

    @Says({"A HIT was seen so many times more (0 to 9999)", "IllegalArgumentException: the number."})
    static void p35_the_number_0_to_9999() {
        NineOnGrass x = on(TWO);
        x.book(0, 0, 7);
        for (int many : new int[] {-1, 10000, LEAST, GREATEST}) {
            refused("book(0, 0, " + many + ")", BAD, () -> x.book(0, 0, many));
            refused("book(0, 2, " + many + ")", NO_SUCH, () -> x.book(0, 2, many));
            due("as often as before", x.hit(0, 0, 5), 7);
        }
        noSuch("book", (ball, hit) -> x.book(ball, hit, 1));
    }

    private interface OfHit {
        void call(int ball, int hit);
    }

    /** The HITS of TWO that aren't there. */
    private static void noSuch(String call, OfHit it) {
        int[][] none = {{-1, 0}, {6, 0}, {LEAST, 0}, {GREATEST, 0}, {0, -1}, {0, 2}, {0, LEAST}, {0, GREATEST}, {5, 1}, {1, 0}};
        for (int[] n : none) {
            refused(call + "(" + n[0] + ", " + n[1] + " ..)", NO_SUCH, () -> it.call(n[0], n[1]));
        }
    }

    // ---- promise 36: learn

    @Says({"LEARNED: for of each HIT of a BALL becomes that (1 at least, 99 at most).", "LEARNED: how often HITS of the BALL were seen."})
    static void p36_1_at_least_99_at_most() {
        NineOnGrass x = on("ball 2" + " way 4 pace 1 for 50".repeat(8) + ";ball 3 way 4 pace 1 for 50;");
        int[] seen = {0, 1, 2, 98, 99, 100, 101, 9999};
        int[] weights = {1, 1, 2, 98, 99, 99, 99, 99};
        int sum = 0;
        x.book(3, 0, 77);
        for (int hit = 0; hit < 8; hit++) {
            x.book(2, hit, seen[hit]);
            sum += seen[hit];
        }
        due("learn(2)", x.learn(2), sum);
        for (int hit = 0; hit < 8; hit++) {
            due("for, seen " + seen[hit], x.hit(2, hit, 3), weights[hit]);
            due("seen stays", x.hit(2, hit, 5), seen[hit]);
            x.book(2, hit, 9999);
        }
        due("of another BALL", x.hit(3, 0, 3), 50);
        due("for stays until it is LEARNED", x.hit(2, 0, 3), 1);
        due("the greatest", x.learn(2), 8 * 9999);
        due("for", x.hit(2, 0, 3), 99);
    }

    @Says({"how often HITS of the BALL were seen", "no such BALL (0 to 5; as everywhere)"})
    static void p36_nothing_was_seen_no_such_ball() {
        NineOnGrass x = on(TWO);
        due("without HITS", x.learn(3), 0);
        due("nothing was seen", x.learn(0), 0);
        due("for", x.hit(0, 0, 3), 1);
        due("for", x.hit(0, 1, 3), 1);
        due("of another BALL", x.hit(5, 0, 3), 7);
        for (int ball : NO_BALLS) {
            refused("learn(" + ball + ")", NO_SUCH, () -> x.learn(ball));
        }
    }

    // ---- promise 37: ends

    @Says("ENDS of a HIT: n, how often it was seen, less (least) or more r, r being 1 and the greatest whole number "
            + "whose square is not above n")
    static void p37_the_greatest_whole_number_whose_square_is_not_above_n() {
        int[][] leeway = {{0, 1}, {1, 2}, {2, 2}, {3, 2}, {4, 3}, {5, 3}, {8, 3}, {9, 4}, {10, 4}, {15, 4}, {16, 5}, {24, 5},
            {25, 6}, {99, 10}, {100, 11}, {1023, 32}, {1024, 33}, {4095, 64}, {4096, 65}, {9800, 99}, {9801, 100}, {9999, 100}};
        for (int[] l : leeway) {
            NineOnGrass x = on(TWO);
            x.book(0, 0, l[0]);
            x.book(0, 1, 9999);
            int all = l[0] + 9999;
            told("the least of " + l[0], x, x.ends(0, 0, false), Math.max(0, l[0] - l[1]), all);
            told("the greatest of " + l[0], x, x.ends(0, 0, true), l[0] + l[1], all);
        }
    }

    private static void told(String call, NineOnGrass x, boolean told, int up, int low) {
        int common = common(up, low);
        fraction(call, x, told, up / common, low / common);
    }

    private static int common(int a, int b) {
        return b == 0 ? a : common(b, a % b);
    }

    @Says("by how often all HITS of the BALL were seen; not below 0, not above 1; 0 over 0, if that is 0")
    static void p37_not_below_0_not_above_1() {
        // n, others: least, greatest, both by n and others.
        int[][] cases = {{0, 5, 0, 1}, {1, 5, 0, 3}, {2, 5, 0, 4}, {3, 5, 1, 5}, {4, 3, 1, 7}, {4, 2, 1, 6}, {4, 4, 1, 7},
            {9, 0, 5, 9}, {9, 4, 5, 13}, {9, 5, 5, 13}, {1, 0, 0, 1}, {0, 1, 0, 1}, {9999, 0, 9899, 9999}};
        for (int[] c : cases) {
            NineOnGrass x = on(TWO);
            x.book(0, 0, c[0]);
            x.book(0, 1, c[1]);
            told("the least of " + c[0] + " and " + c[1], x, x.ends(0, 0, false), c[2], c[0] + c[1]);
            told("the greatest of " + c[0] + " and " + c[1], x, x.ends(0, 0, true), c[3], c[0] + c[1]);
        }
    }

    @Says({"0 over 0, if that is 0", "ENDS are the FRACTION: the least, the greatest (most): true; 0 over 0: false."})
    static void p37_0_over_0_if_nothing_was_seen() {
        NineOnGrass x = on(TWO);
        x.book(5, 0, 3);
        fraction("ends(5, 0, false)", x, x.ends(5, 0, false), 1, 3);
        noFraction("ends(0, 0, false)", x, x.ends(0, 0, false));
        fraction("ends(5, 0, true)", x, x.ends(5, 0, true), 1, 1);
        noFraction("ends(0, 1, true)", x, x.ends(0, 1, true));
        noSuch("ends, least", (ball, hit) -> x.ends(ball, hit, false));
        noSuch("ends, most", (ball, hit) -> x.ends(ball, hit, true));
    }

    // ---- promise 38: enough

    private static int enough(int n, int others, int w) {
        NineOnGrass x = on(TWO);
        x.book(0, 0, n);
        x.book(0, 1, others);
        return x.enough(0, 0, w);
    }

    @Says("ENOUGH of a HIT for w: the least k (1 to 100) by which, were each HIT of the BALL seen k times as often, "
            + "2 times r (of k times n) by all of them would be no more than w hundredths")
    static void p38_the_least_k_1_to_100() {
        due("2 by 200 is no more than 1 of 100", enough(0, 200, 1), 1);
        due("2 by 199 is more: by 398", enough(0, 199, 1), 2);
        due("2 by 2 times 100", enough(0, 2, 1), 100);
        due("2 by 1 times 100 is more", enough(0, 1, 1), NONE);
        due("2 by 1 times 100 is no more than 2 of 100", enough(0, 1, 2), 100);
        due("2 by 1 times 67", enough(0, 1, 3), 67);
        due("2 by 1 times 2", enough(0, 1, 100), 2);
        due("2 by 2", enough(0, 2, 100), 1);
        due("2 by 3 times 99", enough(0, 3, 1), 67);
        // With n: r of k n is 1 and the root of it. By 91 it is 2 times 10 of 91, by 100 2 times 11 of 100.
        due("n 1, w 22", enough(1, 0, 22), 91);
        due("n 1, w 21", enough(1, 0, 21), 96);
        due("n 1, w 20", enough(1, 0, 20), NONE);
        due("n 1, w 100", enough(1, 0, 100), 6);
        due("by 99 it is 2 times 50 of 10098", enough(25, 77, 1), 99);
        due("not before 101", enough(25, 76, 1), NONE);
        due("n 9 of 25, w 50", enough(9, 16, 50), 1);
        due("2 times 4 by 25 is 32 of 100", enough(9, 16, 32), 1);
        due("more than 31 of 100", enough(9, 16, 31), 2);
        due("9999 of 9999, w 2: 200 by 9999 is more", enough(9999, 0, 2), 2);
        due("9999 of 9999, w 3", enough(9999, 0, 3), 1);
        due("9999 of 19998, w 1: 200 by 19998 is more", enough(9999, 9999, 1), 2);
        NineOnGrass x = on(TWO);
        x.book(0, 0, 16);
        x.book(0, 1, 9);
        due("another HIT", x.enough(0, 1, 32), 1);
        due("another HIT", x.enough(0, 0, 32), 2);
    }

    @Says("ENOUGH for w (1 to 100); NONE: none, or nothing was seen of the BALL. IllegalArgumentException: w.")
    static void p38_w_1_to_100_nothing_was_seen() {
        NineOnGrass x = on(TWO);
        x.book(5, 0, 100);
        due("nothing was seen of the BALL", x.enough(0, 0, 100), NONE);
        due("w 100", x.enough(5, 0, 100), 1);
        due("w 1", x.enough(5, 0, 1), NONE);
        for (int w : new int[] {0, 101, -1, LEAST, GREATEST}) {
            refused("enough(5, 0, " + w + ")", BAD, () -> x.enough(5, 0, w));
            refused("enough(0, 0, " + w + "), nothing was seen", BAD, () -> x.enough(0, 0, w));
            refused("enough(0, 2, " + w + ")", NO_SUCH, () -> x.enough(0, 2, w));
        }
        noSuch("enough", (ball, hit) -> x.enough(ball, hit, 50));
    }

    // ---- promise 39: chase

    @Says("CHASE is on or off: whether it was on.")
    static void p39_whether_it_was_on() {
        NineOnGrass x = new NineOnGrass();
        boolean was = false;
        for (boolean on : new boolean[] {false, true, true, false, false, true}) {
            due("chase(" + on + ")", x.chase(on), was);
            due("count(10)", x.count(10), on ? 1 : 0);
            was = on;
        }
    }

    // ---- promise 40: DRAWS

    /** The k-th DRAW (1, 2, ..) from a seed on. */
    private static int draw(int seed, int k) {
        long x = seed & 0xffffffffL;
        for (int i = 0; i < k; i++) {
            x = 1103515245L * x + 12345 & 0xffffffffL;
        }
        return (int) (x >> 16);
    }

    /** A seed whose first DRAWS mod 100 are these; high: the first is above 32767. */
    private static int seed(boolean high, int... draws) {
        for (int seed = -5000; seed < 9000000; seed++) {
            boolean fits = draw(seed, 1) > 32767 == high;
            for (int k = 0; fits && k < draws.length; k++) {
                fits = draw(seed, k + 1) % 100 == draws[k];
            }
            if (fits) {
                return seed;
            }
        }
        throw new IllegalStateException("no such seed");
    }

    @Says("DRAW: x (an int, a seed at first) becomes 1103515245 x + 12345; it is x >>> 16.")
    static void p40_draw_is_x_shifted_by_16_without_its_sign() {
        // 6 over the edge, 4 east, 0 west; no DRAW but that of the HIT.
        NineOnGrass x = on("edge 7;run 60;ball 0 way 8 pace 1 air 8 for 5 way 4 pace 1 for 7 way 12 pace 1 for 11;", at(-1, 0));
        int[] seeds = {0, 1, -1, 2, LEAST, GREATEST, LEAST + 1, GREATEST - 1, 12345, -12345, 65535, 65536, -65536, 1 << 30};
        for (int seed : seeds) {
            for (int n : new int[] {1, 2, 60}) {
                int want = 0;
                for (int k = 1; k <= n; k++) {
                    int drawn = draw(seed, k) % 23;
                    want += drawn < 5 ? 6 : drawn < 12 ? 4 : 0;
                }
                due("play(0, " + n + ", " + seed + ")", x.play(0, n, seed), want);
            }
        }
        due("the same seed again", x.play(0, 60, 7), x.play(0, 60, 7));
    }

    @Says("else DRAW mod all for tells the HIT (laid side by side)")
    static void p40_laid_side_by_side() {
        NineOnGrass x = on("edge 7;run 60;ball 0 way 8 pace 1 air 8 for 37 way 4 pace 1 for 1 way 12 pace 1 for 62;", at(-1, 0));
        int[][] cases = {{0, 6}, {1, 6}, {36, 6}, {37, 4}, {38, 0}, {39, 0}, {98, 0}, {99, 0}};
        for (boolean high : new boolean[] {false, true}) {
            for (int[] c : cases) {
                due("DRAW mod 100 is " + c[0], x.play(0, 1, seed(high, c[0])), c[1]);
            }
        }
        x.book(0, 1, 98);
        x.learn(0);
        due("as LEARNED: 1, 98, 1", x.play(0, 1, seed(false, 1)), 4);
        due("as LEARNED: 1, 98, 1", x.play(0, 1, seed(false, 98)), 4);
        due("as LEARNED: 1, 98, 1", x.play(0, 1, seed(false, 99)), 0);
        due("as LEARNED: 1, 98, 1", x.play(0, 1, seed(false, 0)), 6);
    }

    @Says("if the BATTER looks, and DRAW mod 100 is below SHARE, the HIT with the greatest COST, the first")
    static void p40_draw_mod_100_is_below_share() {
        // East 0, west 4: who looks takes the western one, else the second DRAW tells.
        NineOnGrass x = on("run 60;ball 0 way 4 pace 1 for 99 way 12 pace 1 for 1;", at(1, 0));
        int[][] cases = {{0, 0, 0}, {1, 0, 4}, {1, 1, 0}, {50, 49, 4}, {50, 50, 0}, {50, 51, 0}, {99, 98, 4}, {99, 99, 0}, {100, 99, 4},
            {100, 0, 4}};
        for (int[] c : cases) {
            x.batter(1, c[0]);
            due("SHARE " + c[0] + ", DRAW " + c[1], x.play(0, 1, seed(true, c[1], 5)), c[2]);
            due("the second DRAW tells", x.play(0, 1, seed(true, c[1], 99)), 4);
        }
        x.batter(1, 0);
        due("also with SHARE 0 the second tells", x.play(0, 1, seed(false, 99, 0)), 0);
        due("also with SHARE 0 the second tells", x.play(0, 1, seed(false, 0, 99)), 4);
        // With SHARE 100 there is no second DRAW: the next BALL looks with that one.
        x.batter(1, 50);
        due("0, 60, 0: looks, then the third tells", x.play(0, 2, seed(false, 0, 60, 0)), 4);
        due("0, 0: looks twice", x.play(0, 2, seed(false, 0, 0)), 8);
    }

    @Says("the HIT with the greatest COST, the first")
    static void p40_the_greatest_cost_the_first() {
        // Both HITS have COST 200: 2 runs south; 4 with a CATCH of 50 east.
        String south = " way 8 pace 9 for 50";
        String east = " way 4 pace 8 air 2 for 50";
        for (boolean southFirst : new boolean[] {true, false}) {
            NineOnGrass x = on("worth 0;ball 0" + (southFirst ? south + east : east + south) + ";", at(2, 0), at(0, 1));
            x.fielder(0, 9, 50, 0, 1);
            x.fielder(1, 9, 0, 0, 9);
            due("COST", x.cost(0, 0), 200);
            due("COST", x.cost(0, 1), 200);
            x.batter(1, 100);
            due("the first", x.play(0, 1, seed(false, 0, 50)), southFirst ? 2 : 4);
            due("the first", x.play(0, 1, seed(false, 0, 49)), southFirst ? 2 : 0);
        }
        // The greatest of COSTS below 0 is no less the greatest.
        NineOnGrass x = on("ball 0 way 4 pace 9 air 2 for 1 way 4 pace 9 air 3 for 99;", at(2, 0), at(3, 0));
        x.fielder(0, 9, 50, 0, 1);
        x.fielder(1, 9, 90, 0, 1);
        due("both below 0", x.cost(0, 0) < 0 && x.cost(0, 1) < x.cost(0, 0), true);
        x.batter(1, 100);
        due("50 of the first, not below 50: run", x.play(0, 1, seed(false, 7, 50)) > 0, true);
        due("49 of the first: OUT", x.play(0, 1, seed(false, 7, 49)), 0);
        put(x, "ball 0 way 4 pace 9 air 3 for 99 way 4 pace 9 air 2 for 1;");
        x.stand(0, at(2, 0));
        x.stand(1, at(3, 0));
        due("50 of the last, not below 50: run", x.play(0, 1, seed(false, 7, 50)) > 0, true);
        due("49 of the last: OUT", x.play(0, 1, seed(false, 7, 49)), 0);
    }

    @Says("Who doesn't look makes no first DRAW.")
    static void p40_who_doesnt_look_makes_no_first_draw() {
        // North 0, south 4, whatever the KIND, and without a CATCHER.
        NineOnGrass x = on("run 60;ball 0 way 0 pace 1 for 50 way 8 pace 1 for 50;", at(0, -1), at(0, -4));
        x.fielder(0, 9, 80, 10, 1);
        x.fielder(1, 9, 80, 10, 1);
        for (int kind = 0; kind <= 4; kind++) {
            x.batter(kind, 0);
            due("kind " + kind + ", north", x.runs(0, 0), 0);
            due("kind " + kind + ", south", x.runs(0, 1), 4);
            due("kind " + kind + ": 10, 90", x.play(0, 1, seed(false, 10, 90)), kind == 1 ? 4 : 0);
            due("kind " + kind + ": 90, 10", x.play(0, 1, seed(false, 90, 10)), kind == 1 ? 0 : 4);
        }
    }

    @Says("If there is a CATCH above 0, DRAW mod 100 below it is OUT; else its RUNS are run.")
    static void p40_a_catch_above_0_draw_mod_100_below_it_is_out() {
        int[][] cases = {{1, 0, 0}, {1, 1, 4}, {50, 49, 0}, {50, 50, 4}, {99, 98, 0}, {99, 99, 4}, {100, 99, 0}, {100, 0, 0},
            {0, 0, 4}};
        for (int[] c : cases) {
            NineOnGrass x = on("ball 0 way 4 pace 1 air 2 for 1;", at(2, 0));
            x.fielder(0, 9, c[0], 0, 1);
            int seed = seed(true, 77, c[1]);
            due("CATCH " + c[0] + ", DRAW " + c[1], x.play(0, 1, seed), c[2]);
            due("OUTS", x.score(1), c[2] == 0 ? 1 : 0);
            due("RUNS", x.score(0), c[2]);
            due("PLAYED", x.score(3), 1);
        }
    }

    @Says("If there is a CATCH above 0")
    static void p40_without_a_catch_above_0_there_is_no_draw() {
        // North 4, with a CATCHER; west 0. Seen by what the next BALL draws.
        NineOnGrass x = on("run 60;ball 0 way 0 pace 1 air 2 for 50 way 12 pace 1 for 50;", at(0, -2), at(-1, 0));
        x.fielder(0, 9, 0, 0, 1);
        x.fielder(1, 9, 0, 0, 1);
        due("the CATCHER", x.catcher(0, 0), 0);
        due("CATCH 0: 10 and 20 are two HITS", x.play(0, 2, seed(false, 10, 20, 90)), 8);
        x.fielder(0, 9, 15, 0, 1);
        due("CATCH 15: 20 isn't OUT, 90 is the second HIT", x.play(0, 2, seed(false, 10, 20, 90)), 4);
        x.stand(0, NONE);
        due("nobody: 10 and 20 are two HITS", x.play(0, 2, seed(false, 10, 20, 90)), 8);
    }

    @Says({"PLAYED, n 1 to 60: RUNS of these; NONE: the BALL has no HITS. IllegalArgumentException: n.", "PLAYED: a BALL n times"})
    static void p40_n_1_to_60_none_the_ball_has_no_hits() {
        NineOnGrass x = on("ball 3 way 4 pace 1 for 1;");
        int played = 0;
        for (int n : new int[] {1, 2, 59, 60}) {
            due("play(3, " + n + ", 0)", x.play(3, n, 0), 4 * n);
            played += n;
            due("PLAYED", x.score(3), played);
        }
        for (int n : new int[] {0, 61, -1, LEAST, GREATEST}) {
            refused("play(3, " + n + ", 0)", BAD, () -> x.play(3, n, 0));
            refused("play(0, " + n + ", 0), no HITS", BAD, () -> x.play(0, n, 0));
        }
        due("no HITS", x.play(0, 1, 0), NONE);
        due("no HITS", x.play(5, 60, 0), NONE);
        for (int ball : NO_BALLS) {
            refused("play(" + ball + ", 1, 0)", NO_SUCH, () -> x.play(ball, 1, 0));
            refused("play(" + ball + ", 0, 0)", NO_SUCH, () -> x.play(ball, 0, 0));
        }
        due("PLAYED", x.score(3), played);
        due("RUNS", x.score(0), 4 * played);
    }

    // ---- promise 40: CHASE

    /** One BALL (the first of one HIT) is PLAYED with CHASE on; where these stand then. */
    private static void chased(String what, NineOnGrass x, int runs, int... want) {
        x.chase(true);
        due(what + ": play", x.play(0, 1, 1), runs);
        stands(what, x, want);
    }

    @Says("CHASE, if it is on: behind 4 or 6 of RUNS")
    static void p40_chase_behind_4_or_6_of_runs() {
        NineOnGrass x = on("ball 0 way 4 pace 1 for 1;", at(0, 6));
        due("off", x.play(0, 1, 1), 4);
        due("off: nobody goes", x.of(0, 0), at(0, 6));
        chased("behind 4", x, 4, at(8, 0));
        chased("behind 6", on("edge 7;ball 0 way 4 pace 1 air 8 for 1;", at(0, 6)), 6, at(7, 0));
        chased("not behind 3", on("run 1;ball 0 way 4 pace 1 for 1;", at(6, 0)), 3, at(6, 0));
        chased("not behind 0", on("run 60;ball 0 way 4 pace 1 for 1;", at(6, 0)), 0, at(6, 0));
        x = on("ball 0 way 4 pace 1 air 2 for 1;", at(2, 0));
        x.fielder(0, 3, 100, 0, 1);
        chased("not behind OUT", x, 0, at(2, 0));
        x.fielder(0, 3, 0, 0, 1);
        chased("the CATCHER too, if it wasn't OUT", x, 4, at(8, 0));
    }

    @Says("that FIELDER that is there and nearest (FAR) to the HIT's last step's CELL, then the least, goes to that CELL")
    static void p40_nearest_to_the_last_step_then_the_least() {
        String east = "ball 0 way 4 pace 1 for 1;";
        NineOnGrass x = on(east, at(8 - 3, -3), at(8 - 2, -2));
        x.fielder(0, 9, 80, 10, 1);
        x.fielder(1, 9, 80, 10, 1);
        chased("the nearer", x, 4, at(5, -3), at(8, 0));
        x = on(east, at(0, -5), at(1, 7), at(0, 5));
        x.fielder(1, 9, 80, 10, 1);
        chased("FAR, without PACE", x, 4, at(0, -5), at(8, 0), at(0, 5));
        chased("of like ones the least", on(east, NONE, at(0, 5), at(0, 6), at(0, -5)), 4, NONE, at(8, 0), at(0, 6), at(0, -5));
        chased("of like ones the least", on(east, at(-1, 5), at(0, 5), at(0, 6)), 4, at(-1, 5), at(8, 0), at(0, 6));
        chased("nobody is there", on(east), 4, NONE, NONE, NONE, NONE, NONE, NONE, NONE, NONE, NONE);
        x = on(east, NONE, NONE, NONE, NONE, NONE, NONE, NONE, NONE, at(0, -8));
        chased("FIELDER 8 alone", x, 4, NONE, NONE, NONE, NONE, NONE, NONE, NONE, NONE, at(8, 0));
        x = on(east, at(0, -8));
        x.batter(4, 0);
        chased("the other way", x, 4, at(-8, 0));
        x = on("ball 0 way 3 pace 1 for 1;", at(0, 8));
        chased("its last step is the third", x, 4, at(6, -3));
    }

    @Says("goes to that CELL, if all are LAWFUL then (without STEPS nobody does)")
    static void p40_if_all_are_lawful_then() {
        String west = "ball 0 way 12 pace 1 for 1;";
        chased("one too many on the left", on("side 0;" + west, at(0, 6)), 4, at(0, 6));
        chased("just as many as may", on("side 1;" + west, at(0, 6)), 4, at(-8, 0));
        chased("it was on the left itself", on("side 1;" + west, at(-1, 7)), 4, at(-8, 0));
        NineOnGrass x = on("side 1;" + west, at(-1, 7), at(-2, 7));
        chased("two on the left as before", x, 4, at(-1, 7), at(-2, 7));
        x = on("side 1;ball 0 way 4 pace 1 for 1;", at(-1, 7), at(-2, 7));
        chased("one goes to the right: then all are LAWFUL", x, 4, at(8, 0), at(-2, 7));
        x = on(west, at(-1, 7), at(1, 7), at(8, 8));
        chased("another isn't IN", x, 4, at(-1, 7), at(1, 7), at(8, 8));
        x = on(west, at(-1, 7), at(1, 7), at(1, 7));
        chased("two others are alike", x, 4, at(-1, 7), at(1, 7), at(1, 7));
        x = on(west, 0, at(1, 7));
        chased("it wasn't IN itself", x, 4, at(-8, 0), at(1, 7));
        // Way 1, edge 3: its only step is FAR 2 from the BAT.
        String over = "edge 3;ball 0 way 1 pace 1 for 1;";
        chased("FAR near", on("near 2;" + over, at(-3, 0)), 4, at(1, -2));
        chased("less than near", on("near 3;" + over, at(-3, 0)), 4, at(-3, 0));
        x = on(west, at(-8, 0), at(0, 7));
        x.fielder(0, 9, 0, 10, 1);
        due("who stands there stops it: 8 and 8 by 9", x.play(0, 1, 1), 1);
    }

    @Says("(without STEPS nobody does)")
    static void p40_without_steps_nobody_does() {
        chased("4, without STEPS", on("edge 2;near 0;ball 0 way 1 pace 1 for 1;", at(1, 0)), 4, at(1, 0));
        chased("6, without STEPS", on("edge 2;near 0;ball 0 way 1 pace 1 air 1 for 1;", at(1, 0)), 6, at(1, 0));
        chased("6, with one step", on("edge 3;ball 0 way 1 pace 1 air 2 for 1;", at(-3, 0)), 6, at(1, -2));
    }

    @Says("behind 4 or 6 of RUNS that FIELDER that is there and nearest (FAR)")
    static void p40_the_next_of_n_finds_who_went_where_it_went() {
        NineOnGrass x = on("ball 0 way 4 pace 1 for 1;", at(0, 8));
        x.fielder(0, 9, 80, 10, 1);
        x.chase(true);
        due("4, then 8 and 8 by 9", x.play(0, 3, 1), 4 + 1 + 1);
        due("fours", x.score(2), 1);
        due("it stays", x.of(0, 0), at(8, 0));
        x = on("ball 0 way 4 pace 1 for 1;", at(0, 8));
        x.fielder(0, 9, 80, 10, 1);
        due("off", x.play(0, 3, 1), 12);
    }

    // ---- promise 41: score

    @Says({"SCORE: RUNS, OUTS, and how many 4 and 6, of all that was PLAYED.",
        "SCORE, what 0: RUNS, 1: OUTS, 2: how many 4 and 6, 3: how often a BALL was PLAYED; NONE for others."})
    static void p41_what_0_to_3_none_for_others() {
        NineOnGrass x = on("edge 7;run 1;ball 0 way 4 pace 1 for 1;ball 1 way 12 pace 1 for 1;ball 2 way 0 pace 1 air 8 for 1;"
                + "ball 3 way 8 pace 1 air 2 for 1;", at(-1, 0), at(0, 2));
        x.fielder(0, 9, 80, 10, 0);
        x.fielder(1, 9, 100, 0, 0);
        int[][] steps = {{0, 3, 12, 0, 3, 3}, {1, 2, 14, 0, 3, 5}, {2, 4, 38, 0, 7, 9}, {3, 5, 38, 5, 7, 14}, {4, 9, 38, 5, 7, 14}};
        for (int[] s : steps) {
            x.play(s[0], s[1], 1);
            for (int what = 0; what <= 3; what++) {
                due("BALL " + s[0] + ", score(" + what + ")", x.score(what), s[2 + what]);
            }
        }
        for (int what : new int[] {-1, 4, 5, LEAST, GREATEST}) {
            due("score(" + what + ")", x.score(what), NONE);
        }
        NineOnGrass y = on("run 1;ball 1 way 12 pace 1 for 1;", at(-3, 0));
        y.play(1, 2, 1);
        due("3 is neither 4 nor 6", y.score(2), 0);
        due("RUNS", y.score(0), 6);
    }
}
