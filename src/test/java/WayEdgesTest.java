/** The edges of WAYS TO STAND: promises 26 to 29. */
public final class WayEdgesTest extends Due {
    public static void main(String[] args) {
        run(WayEdgesTest.class);
    }

    /** FIELDERS 0, 1, .. stand so, and that is a WAY TO STAND; the others aren't there. */
    private static void keep(NineOnGrass x, int way, int... stands) {
        for (int f = 0; f < 9; f++) {
            x.stand(f, f < stands.length ? stands[f] : NONE);
        }
        x.way(way, 0);
    }

    // ---- promise 26: way

    @Says({"WAYS TO STAND 0 to 3: all STANDS, as kept (none at first).", "NoSuchElementException: no such WAY (as below)"})
    static void p26_ways_to_stand_0_to_3() {
        NineOnGrass x = new NineOnGrass();
        for (int i = 0; i <= 3; i++) {
            x.stand(0, 10 + i);
            x.way(i, 0);
            due("bits", x.count(11), (2 << i) - 1);
        }
        for (int i = 3; i >= 0; i--) {
            x.way(i, 1);
            due("WAY " + i, x.of(0, 0), 10 + i);
        }
        for (int i : NO_WAYS) {
            refused("way(" + i + ", 0)", NO_SUCH, () -> x.way(i, 0));
            refused("way(" + i + ", 1)", NO_SUCH, () -> x.way(i, 1));
            refused("way(" + i + ", 2)", NO_SUCH, () -> x.way(i, 2));
        }
        due("bits", x.count(11), 15);
    }

    @Says("All STANDS are a WAY TO STAND (what 0), or as one (1).")
    static void p26_all_stands_as_kept() {
        NineOnGrass x = new NineOnGrass();
        keep(x, 2, 0, NONE, 288, NONE, 144, NONE, NONE, NONE, 7);
        x.fielder(0, 9, 9, 9, 9);
        keep(x, 1, NONE, 5);
        x.way(2, 1);
        stands("WAY 2", x, 0, NONE, 288, NONE, 144, NONE, NONE, NONE, 7);
        due("PACE is none of it", x.of(0, 1), 9);
        x.way(1, 1);
        stands("WAY 1", x, NONE, 5, NONE, NONE, NONE, NONE, NONE, NONE, NONE);
        x.stand(1, 6);
        x.way(1, 1);
        due("it was kept as it was", x.of(1, 0), 5);
        x.stand(1, 6);
        x.way(1, 0);
        x.stand(1, 7);
        x.way(1, 1);
        due("kept anew", x.of(1, 0), 6);
        keep(x, 0);
        x.stand(3, 3);
        x.way(0, 1);
        due("nobody is a WAY too", x.count(6), 0);
        due("bits", x.count(11), 7);
    }

    @Says("IllegalArgumentException: another what; IllegalStateException: it isn't kept (as below).")
    static void p26_another_what_it_isnt_kept() {
        NineOnGrass x = new NineOnGrass();
        x.stand(0, 5);
        x.way(1, 0);
        for (int what : new int[] {-1, 2, LEAST, GREATEST}) {
            refused("way(1, " + what + ")", BAD, () -> x.way(1, what));
            refused("way(0, " + what + "), it isn't kept", BAD, () -> x.way(0, what));
        }
        for (int i : new int[] {0, 2, 3}) {
            refused("way(" + i + ", 1)", ILL, () -> x.way(i, 1));
        }
        due("STAND stays", x.of(0, 0), 5);
        due("bits", x.count(11), 2);
    }

    // ---- promise 27: rest

    /**
     * South for 1 run in both WAYS (FIELDER 8 has it); west for 0 by WAY 0, for 4 by WAY 1, for 0 by WAY 2
     * where nobody is south. BALL 3 is the western one alone.
     */
    private static NineOnGrass mixed() {
        NineOnGrass x = on("run 12;ball 0 way 8 pace 6 for 1 way 12 pace 1 for 99;ball 3 way 12 pace 1 for 1;");
        x.fielder(8, 9, 80, 10, 6);
        keep(x, 0, at(-1, 0), NONE, NONE, NONE, NONE, NONE, NONE, NONE, at(0, 1));
        keep(x, 1, NONE, NONE, NONE, NONE, NONE, NONE, NONE, NONE, at(0, 1));
        keep(x, 2, NONE, at(-1, 0));
        x.fielder(1, 9, 80, 10, 1);
        return x;
    }

    private static void rest(String what, NineOnGrass x, int a, int b, int ball, long up, long low, long v, long vLow) {
        fraction(what + ": p", x, x.rest(a, b, ball, 0), up, low);
        fraction(what + ": VALUE", x, x.rest(a, b, ball, 1), v, vLow);
    }

    @Says("REST of a, b for a BALL: of all shares p (0 to 1) of a (the others b) that by which the greatest of "
            + "p times COST by a and (1 less p) times COST by b, over all HITS, is least; then the least p; "
            + "its VALUE: that by 100.")
    static void p27_shares_p_0_to_1() {
        NineOnGrass x = mixed();
        rest("all of a", x, 0, 1, 3, 1, 1, 0, 1);
        rest("nothing of a", x, 1, 0, 3, 0, 1, 0, 1);
        rest("the same: the least p", x, 0, 0, 3, 0, 1, 0, 1);
        rest("the same: the least p", x, 1, 1, 3, 0, 1, 4, 1);
        // South 100 and 400, west 400 and 0: 400 less 300 p is 400 p by 4 of 7.
        rest("between", x, 1, 2, 0, 4, 7, 16, 7);
        rest("between, the others", x, 2, 1, 0, 3, 7, 16, 7);
    }

    @Says("of all shares p (0 to 1) of a (the others b)")
    static void p27_no_share_above_1_or_below_0() {
        // East 300 by WAY 0, 400 by 1; west 100 and 0: by a share of 2 it were 200 for both, by less 1 the other way round.
        NineOnGrass x = on("run 6;ball 0 way 4 pace 9 for 1 way 12 pace 1 for 1;");
        x.fielder(0, 9, 80, 10, 1);
        x.fielder(1, 9, 80, 10, 1);
        keep(x, 0, at(4, 0), at(-3, 0));
        keep(x, 1, NONE, at(-1, 0));
        rest("no more than 1", x, 0, 1, 0, 1, 1, 3, 1);
        rest("no less than 0", x, 1, 0, 0, 0, 1, 3, 1);
    }

    @Says("is least; then the least p")
    static void p27_then_the_least_p() {
        NineOnGrass x = mixed();
        // South 100 by both, west 400 less 400 p: no more than 100 from 3 of 4 on.
        rest("from 3 of 4 on it is 100", x, 0, 1, 0, 3, 4, 1, 1);
        rest("to 1 of 4 it is 100", x, 1, 0, 0, 0, 1, 1, 1);
        rest("everywhere", x, 0, 0, 0, 0, 1, 1, 1);
        rest("everywhere 4", x, 1, 1, 0, 0, 1, 4, 1);
    }

    @Says("p times COST by a and (1 less p) times COST by b")
    static void p27_cost_below_0() {
        NineOnGrass x = on("ball 0 way 4 pace 9 air 2 for 1;");
        x.fielder(0, 9, 80, 0, 1);
        keep(x, 0, at(2, 0));
        keep(x, 1);
        rest("20 times 4 less 1600", x, 0, 1, 0, 1, 1, -76, 5);
        rest("the others", x, 1, 0, 0, 0, 1, -76, 5);
    }

    @Says({"REST: p is the FRACTION (what 0), VALUE (1): true; without HITS 0 over 0: false.",
        "IllegalArgumentException: another what."})
    static void p27_without_hits_another_what() {
        NineOnGrass x = mixed();
        noFraction("without HITS, p", x, x.rest(0, 1, 5, 0));
        rest("between", x, 1, 2, 0, 4, 7, 16, 7);
        noFraction("without HITS, VALUE", x, x.rest(0, 1, 5, 1));
        for (int what : new int[] {-1, 2, LEAST, GREATEST}) {
            refused("rest(0, 1, 0, " + what + ")", BAD, () -> x.rest(0, 1, 0, what));
            refused("rest(0, 1, 5, " + what + ")", BAD, () -> x.rest(0, 1, 5, what));
        }
    }

    @Says({"no such WAY (as below)", "it isn't kept (as below)", "no such BALL (0 to 5; as everywhere)"})
    static void p27_no_such_way_no_such_ball_it_isnt_kept() {
        NineOnGrass x = mixed();
        for (int i : NO_WAYS) {
            refused("rest(" + i + ", 0, 0, 0)", NO_SUCH, () -> x.rest(i, 0, 0, 0));
            refused("rest(0, " + i + ", 0, 0)", NO_SUCH, () -> x.rest(0, i, 0, 0));
            refused("rest(3, " + i + ", 0, 2), it isn't kept", NO_SUCH, () -> x.rest(3, i, 0, 2));
        }
        for (int ball : NO_BALLS) {
            refused("rest(0, 1, " + ball + ", 0)", NO_SUCH, () -> x.rest(0, 1, ball, 0));
            refused("rest(3, 3, " + ball + ", 2)", NO_SUCH, () -> x.rest(3, 3, ball, 2));
        }
        refused("rest(3, 0, 0, 0)", ILL, () -> x.rest(3, 0, 0, 0));
        refused("rest(0, 3, 0, 0)", ILL, () -> x.rest(0, 3, 0, 0));
        refused("rest(0, 3, 5, 1), without HITS", ILL, () -> x.rest(0, 3, 5, 1));
        refused("rest(0, 3, 0, 2)", BAD, () -> x.rest(0, 3, 0, 2));
    }

    @Says("WAYS TO STAND 0 to 3: all STANDS, as kept")
    static void p27_as_kept_not_as_they_are() {
        NineOnGrass x = mixed();
        for (int f = 0; f < 9; f++) {
            x.stand(f, at(-1, 0));
        }
        rest("as kept", x, 0, 1, 0, 3, 4, 1, 1);
        stands("nobody moved", x, at(-1, 0), at(-1, 0), at(-1, 0));
        // Who doesn't look takes no SHARE, who looks none either: COST is COST.
        x.batter(1, 100);
        rest("of one who looks", x, 0, 1, 0, 3, 4, 1, 1);
    }

    @Says("over all HITS, is least")
    static void p27_over_8_hits() {
        for (int last = 0; last < 8; last++) {
            StringBuilder text = new StringBuilder("run 60;ball 5");
            for (int hit = 0; hit < 8; hit++) {
                text.append(hit == last ? " way 4 pace 1 for 1" : " way 12 pace 1 for 1");
            }
            NineOnGrass x = on(text + ";");
            keep(x, 0, at(1, 0), at(-1, 0));
            keep(x, 1, NONE, at(-1, 0));
            keep(x, 2, at(1, 0));
            rest("HIT " + last + " brings 4 by b", x, 0, 1, 5, 1, 1, 0, 1);
            rest("all others bring 4 by b", x, 0, 2, 5, 1, 1, 0, 1);
            rest("half and half", x, 1, 2, 5, 1, 2, 2, 1);
        }
    }

    // ---- promise 28: walk

    private static void walk(String what, int want, int[] from, int[] to) {
        NineOnGrass x = new NineOnGrass();
        keep(x, 0, from);
        keep(x, 3, to);
        due(what, x.walk(0, 3), want);
        due(what + ", back", x.walk(3, 0), want);
        due(what + ", in its place", x.walk(0, 0), 0);
    }

    @Says({"FAR of two CELLS is the greater of the differences of x and of y", "CELLS 0 to 288: 17 times y and x (0 to 16 each)"})
    static void p28_far_is_the_greater_difference() {
        int[][] far = {{0, 0, 0}, {0, 1, 1}, {0, 17, 1}, {0, 18, 1}, {0, 19, 2}, {0, 35, 2}, {0, 16, 16}, {0, 272, 16},
            {0, 288, 16}, {16, 17, 16}, {16, 272, 16}, {1, 17, 1}, {33, 34, 16}, {144, 0, 8}, {144, 288, 8}, {144, 145, 1},
            {144, 127, 1}, {100, 117, 1}, {144, 144 + 3 * 17 - 5, 5}, {144, 144 - 6 * 17 + 5, 6}, {15, 32, 1}, {288, 271, 1}};
        for (int[] f : far) {
            walk("from " + f[0] + " to " + f[1], f[2], new int[] {f[0]}, new int[] {f[1]});
        }
    }

    @Says({"WALK from a to b: the least sum of FAR by which those of a come to the CELLS of b, whoever to whichever",
        "`int walk(int a, int b) throws NoSuchElementException, IllegalStateException`: WALK."})
    static void p28_whoever_to_whichever() {
        walk("crosswise is the same place", 0, new int[] {144, 10}, new int[] {10, 144});
        walk("the others go on", 2, new int[] {0, 1}, new int[] {1, 2});
        walk("another FIELDER, the same CELL", 0, new int[] {NONE, 20, NONE, 30}, new int[] {30, NONE, NONE, NONE, 20});
        walk("the nearest isn't his: 1 and 1", 2, new int[] {1, 2}, new int[] {2, 3});
        // 2 to 3 and 0 to 9 are 1 and 9; 2 to 9 and 0 to 3 are 7 and 3: alike; three make the difference.
        walk("not each to the nearest: 3 and 4, not 1 and 16", 7, new int[] {3, 4}, new int[] {0, 8});
        walk("along one and across the other", 3, new int[] {0, 2, 34}, new int[] {1, 19, 35});
        walk("two on one CELL", 2, new int[] {5, 5}, new int[] {4, 6});
        walk("nine, one place on", 9, new int[] {0, 1, 2, 3, 4, 5, 6, 7, 8}, new int[] {1, 2, 3, 4, 5, 6, 7, 8, 9});
        walk("nine, all the way", 144, new int[] {0, 17, 34, 51, 68, 85, 102, 119, 136},
                new int[] {16, 33, 50, 67, 84, 101, 118, 135, 152});
    }

    @Says("NONE, if not as many are there.")
    static void p28_none_if_not_as_many_are_there() {
        NineOnGrass x = new NineOnGrass();
        keep(x, 0);
        keep(x, 1, 7);
        keep(x, 2, NONE, 7, 8);
        keep(x, 3, 1, 2, 3, 4, 5, 6, 7, 8, 9);
        for (int a = 0; a < 4; a++) {
            for (int b = 0; b < 4; b++) {
                due("walk(" + a + ", " + b + ")", x.walk(a, b), a == b ? 0 : NONE);
            }
        }
        keep(x, 0, 1, 2, 3, 4, 5, 6, 7, 8);
        due("8 and 9", x.walk(0, 3), NONE);
        keep(x, 0, 1, 2, 3, 4, 5, 6, 7, 8, 10);
        due("9 and 9", x.walk(0, 3), 1);
    }

    @Says({"no such WAY (as below)", "it isn't kept (as below)"})
    static void p28_no_such_way_it_isnt_kept() {
        NineOnGrass x = new NineOnGrass();
        keep(x, 0, 5);
        for (int i : NO_WAYS) {
            refused("walk(" + i + ", 0)", NO_SUCH, () -> x.walk(i, 0));
            refused("walk(0, " + i + ")", NO_SUCH, () -> x.walk(0, i));
            refused("walk(1, " + i + "), it isn't kept", NO_SUCH, () -> x.walk(1, i));
        }
        for (int i = 1; i <= 3; i++) {
            int way = i;
            refused("walk(" + i + ", 0)", ILL, () -> x.walk(way, 0));
            refused("walk(0, " + i + ")", ILL, () -> x.walk(0, way));
        }
    }

    // ---- promise 29: tells

    @Says({"TELLS from a to b: the BALL whose MEAN by a is most above that by b, then the least; NONE, if none is above.",
        "`int tells(int a, int b) throws NoSuchElementException, IllegalStateException`: TELLS."})
    static void p29_most_above_then_the_least_none_if_none_is_above() {
        // East is stopped by WAY 1, west by WAY 2; by 0 and 3 neither.
        String east = " way 4 pace 1 for ";
        String west = " way 12 pace 1 air 8 for ";
        NineOnGrass x = on("run 60;ball 1" + east + "2" + west + "1;ball 2" + east + "3" + west + "1;ball 3" + east + "6"
                + west + "2;ball 5 way 12 pace 1 for 1;");
        keep(x, 0);
        keep(x, 1, at(1, 0));
        keep(x, 2, at(-1, 0));
        keep(x, 3, at(0, 7));
        due("3, and not 8 by 3: of like ones the least", x.tells(0, 1), 2);
        due("4 of the western one", x.tells(0, 2), 5);
        due("none is above: all are below or alike", x.tells(1, 0), NONE);
        due("none is above: all are alike", x.tells(0, 3), NONE);
        due("none is above: the same", x.tells(1, 1), NONE);
        due("above and below", x.tells(1, 2), 5);
        due("above and below", x.tells(2, 1), 2);
        x.batter(4, 0);
        due("the other way, the eastern one", x.tells(0, 1), 5);
        x.batter(1, 100);
        due("who looks takes the one that brings 4 by both", x.tells(0, 1), NONE);
        put(x, "edge 7;");
        x.way(0, 0);
        due("no HITS", x.tells(0, 0), NONE);
        for (int ball = 0; ball <= 5; ball++) {
            x = on("run 60;ball " + ball + " way 4 pace 1 for 1 way 12 pace 1 for 99;");
            keep(x, 0);
            keep(x, 1, at(1, 0));
            due("above by 1 of 25", x.tells(0, 1), ball);
            due("below by 1 of 25", x.tells(1, 0), NONE);
        }
    }

    @Says({"no such WAY (as below)", "it isn't kept (as below)"})
    static void p29_no_such_way_it_isnt_kept() {
        NineOnGrass x = on("ball 0 way 4 pace 1 for 1;");
        keep(x, 3, 5);
        for (int i : NO_WAYS) {
            refused("tells(" + i + ", 3)", NO_SUCH, () -> x.tells(i, 3));
            refused("tells(3, " + i + ")", NO_SUCH, () -> x.tells(3, i));
            refused("tells(1, " + i + "), it isn't kept", NO_SUCH, () -> x.tells(1, i));
        }
        for (int i = 0; i <= 2; i++) {
            int way = i;
            refused("tells(" + i + ", 3)", ILL, () -> x.tells(way, 3));
            refused("tells(3, " + i + ")", ILL, () -> x.tells(3, way));
        }
        due("tells(3, 3)", x.tells(3, 3), NONE);
    }
}
