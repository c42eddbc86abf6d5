/** The edges of where to stand: promises 22 to 25. */
public final class PlaceEdgesTest extends Due {
    /** East, TICK 1 a step: with PACE 3 it is stopped for 0 from FAR 1 of steps 3 and 4, and on steps 1 to 4. */
    private static final String EAST = "ball 0 way 4 pace 1 for 1;";
    private static final String OVER = "edge 7;ball 0 way 4 pace 1 air 8 for 1;";

    public static void main(String[] args) {
        run(PlaceEdgesTest.class);
    }

    // ---- promise 22: one

    @Says("of all CELLS by which, if it stood there, all were LAWFUL that with the least MEAN, then the least")
    static void p22_the_least_mean_then_the_least() {
        due("one", on(EAST, at(0, 5)).one(0, 0), at(2, -1));
        due("its own CELL is one of them", on(EAST, at(2, -1)).one(0, 0), at(2, -1));
        due("of like ones the least", on(EAST, at(3, 0)).one(0, 0), at(2, -1));
        NineOnGrass x = on(EAST, at(0, 5), at(2, -1));
        x.fielder(1, 9, 80, 10, 1);
        due("not where another is", x.one(0, 0), at(3, -1));
        x.stand(0, NONE);
        x.stand(7, at(0, 5));
        due("nor a greater one where a lesser one is", x.one(7, 0), at(3, -1));
        due("nobody goes", x.of(7, 0), at(0, 5));
        for (int other = 0; other <= 8; other++) {
            x = on(EAST);
            x.stand(4, at(0, 5));
            x.stand(other == 4 ? 3 : other, at(2, -1));
            x.fielder(other == 4 ? 3 : other, 9, 80, 10, 1);
            due("not where " + other + " is", x.one(4, 0), at(3, -1));
        }
        // Nowhere it is of use: the least CELL of all.
        due("all alike", on(OVER, at(1, 1)).one(0, 0), at(0, -7));
        due("all alike, but one is taken", on(OVER, at(1, 1), at(0, -7)).one(0, 0), at(-3, -6));
        due("all alike, on the right", on("side 0;" + OVER, at(1, 1), at(0, -7)).one(0, 0), at(0, -6));
        due("the last CELL is the best", on("near 8;ball 0 way 8 pace 1 for 1;", at(8, 0)).one(0, 0), at(0, 8));
        due("the first CELL is the best", on("near 8;ball 0 way 0 pace 1 for 1;", at(8, 0)).one(0, 0), at(0, -8));
    }

    @Says("if it stood there, all were LAWFUL")
    static void p22_not_less_than_near() {
        int[] want = {at(2, -1), at(2, -1), at(2, -1), at(3, -1), at(4, -1), at(5, -1), at(6, -2)};
        for (int near = 0; near <= 6; near++) {
            due("near " + near, on("near " + near + ";" + EAST, at(0, 7)).one(0, 0), want[near]);
        }
    }

    @Says("if it stood there, all were LAWFUL")
    static void p22_a_cell_that_is_in() {
        due("edge 2", on("edge 2;" + EAST, at(0, 1)).one(0, 0), at(1, 0));
        due("edge 2, near 0", on("edge 2;near 0;" + EAST, at(0, 1)).one(0, 0), at(1, 0));
        due("edge 2, near 2", on("edge 2;near 2;" + EAST, at(0, 1)).one(0, 0), at(2, 0));
        due("edge 2, near 3: no CELL", on("edge 2;near 3;" + EAST, at(0, 1)).one(0, 0), NONE);
        // 9 and 4 are no more than 16 for 129, edge 3; 5 for edge 2.
        due("edge 3", on("edge 3;" + EAST, at(0, 1)).one(0, 0), at(2, -1));
    }

    @Says("if it stood there, all were LAWFUL")
    static void p22_side_counts_with_it() {
        String west = "ball 0 way 12 pace 1 for 1;";
        due("side 0: least of the right, all alike", on("side 0;" + west, at(1, 1)).one(0, 0), 8);
        due("side 1", on("side 1;" + west, at(1, 1)).one(0, 0), at(-5, -1));
        due("side 1, it is on the left itself", on("side 1;" + west, at(-1, 7)).one(0, 0), at(-5, -1));
        NineOnGrass x = on("side 1;" + west, at(1, 1), at(-1, -7));
        x.fielder(1, 9, 80, 10, 1);
        due("side 1, another is on the left", x.one(0, 0), 8);
        x.stand(1, at(0, -7));
        due("side 1, another at x 8", x.one(0, 0), at(-5, -1));
        x = on("side 2;" + west, at(1, 1), at(-1, -7));
        x.fielder(1, 9, 80, 10, 1);
        due("side 2, another is on the left", x.one(0, 0), at(-5, -1));
        for (int other = 0; other <= 8; other++) {
            int who = other == 4 ? 5 : other;
            x = on("side 1;" + west);
            x.stand(4, at(1, 1));
            x.stand(who, at(-1, -7));
            x.fielder(who, 9, 80, 10, 1);
            due("side 1, " + who + " is on the left", x.one(4, 0), 8);
        }
    }

    @Says({"ONE; NONE: no CELL, or no MEAN.", "without one: 0 over 0"})
    static void p22_none_no_cell_or_no_mean() {
        due("no HITS", on(EAST, at(1, 1)).one(0, 1), NONE);
        due("another isn't IN", on(EAST, at(1, 1), 0).one(0, 0), NONE);
        due("it isn't IN itself", on(EAST, 0, at(1, 1)).one(0, 0) >= 0, true);
        due("another is too near", on(EAST, at(1, 1), 144).one(0, 0), NONE);
        due("it is too near itself", on(EAST, 144).one(0, 0), at(2, -1));
        due("two others are alike", on(EAST, at(1, 1), at(1, 2), at(1, 2)).one(0, 0), NONE);
        due("it is where another is", on(EAST, at(0, 5), at(0, 5)).one(0, 0), at(2, -1));
        due("another is one too many on the left", on("side 0;" + EAST, at(1, 1), at(-1, 1)).one(0, 0), NONE);
        due("it is one too many itself", on("side 0;" + EAST, at(-1, 1), at(1, 1)).one(0, 0), at(2, -1));
        NineOnGrass x = on("edge 2;near 2;" + EAST, at(2, 0), at(-2, 0), at(0, 2), at(0, -2));
        due("four CELLS for four", x.one(0, 0), at(2, 0));
        due("no way round", x.one(1, 0), at(-2, 0));
        x.stand(4, 0);
        due("no CELL for a fifth", x.one(4, 0), NONE);
    }

    @Says({"IllegalStateException: it isn't there (as below).", "ONE of a FIELDER that is there, for a BALL"})
    static void p22_it_isnt_there() {
        NineOnGrass x = on(EAST, NONE, at(1, 1), NONE, NONE, NONE, NONE, NONE, NONE, at(1, 2));
        refused("one(0, 0)", ILL, () -> x.one(0, 0));
        refused("one(7, 0)", ILL, () -> x.one(7, 0));
        refused("one(0, 5), no MEAN", ILL, () -> x.one(0, 5));
        due("one(1, 0)", x.one(1, 0) >= 0, true);
        due("one(8, 0)", x.one(8, 0) >= 0, true);
        for (int f : NO_FIELDERS) {
            refused("one(" + f + ", 0)", NO_SUCH, () -> x.one(f, 0));
        }
        for (int ball : NO_BALLS) {
            refused("one(1, " + ball + ")", NO_SUCH, () -> x.one(1, ball));
            refused("one(0, " + ball + "), it isn't there", NO_SUCH, () -> x.one(0, ball));
        }
    }

    @Says("who looks: (100 less SHARE) hundredths of that, and SHARE hundredths of the greatest COST")
    static void p22_the_mean_of_one_who_looks() {
        String both = "ball 0 way 4 pace 1 for 9 way 12 pace 1 for 1;";
        NineOnGrass x = on(both, at(0, 5));
        due("plain", x.one(0, 0), at(2, -1));
        x.batter(1, 99);
        due("SHARE 99", x.one(0, 0), at(2, -1));
        x.batter(1, 100);
        due("SHARE 100: the other one brings 4 wherever it is", x.one(0, 0), 8);
        x.stand(1, at(-1, 0));
        x.fielder(1, 9, 80, 10, 1);
        due("SHARE 100: another has that one", x.one(0, 0), at(2, -1));
        // North it is always OUT, for less 2000; east 400 less 24 times the CATCH is the greatest, though it is below 0.
        for (String text : new String[] {"ball 0 way 4 pace 9 air 2 for 1 way 0 pace 9 air 8 for 1;",
            "ball 0 way 0 pace 9 air 8 for 1 way 4 pace 9 air 2 for 1;"}) {
            NineOnGrass y = on(text, at(0, 5), at(0, -8));
            y.fielder(1, 9, 100, 0, 1);
            y.batter(1, 100);
            due("SHARE 100: the greatest COST below 0", y.one(0, 0), at(2, 0));
        }
    }

    @Says("at most 8 each")
    static void p22_of_8_hits() {
        for (int last = 0; last < 8; last++) {
            StringBuilder text = new StringBuilder("ball 5");
            for (int hit = 0; hit < 8; hit++) {
                text.append(hit == last ? " way 4 pace 1 for 1" : " way 8 pace 1 air 8 for 1");
            }
            NineOnGrass x = on("edge 7;" + text + ";", at(0, 5));
            due("HIT " + last + " alone can be stopped", x.one(0, 5), at(2, -1));
            due("settle", x.settle(5, 50), 1);
            fraction("bound", x, x.bound(5), 21, 4);
            fraction("gap", x, x.gap(5), 0, 1);
        }
    }

    private static final String[] SCENES = {
        "side 2;near 2;ball 0 way 4 pace 3 air 2 for 3 way 10 pace 2 for 2 way 0 pace 2 air 3 for 1;",
        "edge 6;worth 5;run 5;slow 4 at 109 126;ball 0 way 14 pace 2 air 2 for 2 way 15 pace 1 for 1 way 6 pace 3 air 4 for 4;",
        "side 1;run 12;ball 0 way 12 pace 3 air 1 for 3 way 0 pace 2 for 3 way 2 pace 1 for 1;",
        "edge 5;near 0;worth 99;ball 0 way 3 pace 4 air 1 for 1 way 5 pace 4 air 2 for 1 way 13 pace 2 for 9;"};

    /** A scene with four FIELDERS who are there, all of another PACE, HANDS and ARM. */
    private static NineOnGrass scene(int i, int kind) {
        NineOnGrass x = on(SCENES[i], at(3, 0), NONE, at(-2, 2), NONE, at(2, -2), NONE, NONE, NONE, at(0, 4));
        x.fielder(0, 2, 70, 10, 2);
        x.fielder(2, 1, 40, 5, 0);
        x.fielder(4, 3, 95, 30, 5);
        x.batter(kind, 40);
        return x;
    }

    @Says("of all CELLS by which, if it stood there, all were LAWFUL that with the least MEAN, then the least")
    static void p22_as_each_cell_by_itself_tells() {
        for (int i = 0; i < SCENES.length; i++) {
            for (int kind = 0; kind <= 4; kind++) {
                for (int f : new int[] {0, 2, 4, 8}) {
                    due("scene " + i + ", KIND " + kind + ", FIELDER " + f, scene(i, kind).one(f, 0), least(i, kind, f));
                }
            }
        }
    }

    private static int least(int i, int kind, int f) {
        int best = NONE;
        long up = 0;
        long low = 1;
        for (int cell = 0; cell <= 288; cell++) {
            NineOnGrass x = scene(i, kind);
            x.stand(f, cell);
            if (x.judge() != NONE || !x.mean(0)) {
                continue;
            }
            if (best == NONE || x.upper() * low < up * x.lower()) {
                best = cell;
                up = x.upper();
                low = x.lower();
            }
        }
        return best;
    }

    // ---- promise 23: settle

    @Says("each goes to ONE, if MEAN is less there (a MOVE)")
    static void p23_a_move_if_mean_is_less_there() {
        NineOnGrass x = on(EAST, at(3, 0));
        due("as little as it can be", x.settle(0, 50), 0);
        due("it stays, though ONE is another CELL", x.of(0, 0), at(3, 0));
        x.stand(0, at(6, 0));
        due("1 by MEAN 1", x.settle(0, 50), 1);
        due("it went to ONE", x.of(0, 0), at(2, -1));
        x = on(OVER, at(3, 0), at(4, 0));
        due("nothing is of use", x.settle(0, 50), 0);
        stands("nobody went", x, at(3, 0), at(4, 0));
    }

    @Says("SETTLED: FIELDERS that are there, by number, again and again")
    static void p23_by_number_again_and_again() {
        String both = "ball 0 way 4 pace 1 for 1 way 12 pace 1 for 1;";
        NineOnGrass x = on(both, NONE, 8, NONE, 25);
        due("settle", x.settle(0, 50), 2);
        stands("1 is first, and has the lesser CELL", x, NONE, at(-5, -1), NONE, at(2, -1));
        due("count(6)", x.count(6), 2);
        x = on(both, NONE, 25, NONE, 8);
        due("settle", x.settle(0, 50), 2);
        stands("1 is first", x, NONE, at(-5, -1), NONE, at(2, -1));
        due("nobody is there", on(both).settle(0, 50), 0);
        for (int f = 0; f <= 8; f++) {
            x = on(EAST);
            x.stand(f, at(0, 5));
            due(f + " alone", x.settle(0, 50), 1);
            due(f + " went", x.of(f, 0), at(2, -1));
        }
    }

    @Says("it ends behind a round without MOVES, or with so many MOVES")
    static void p23_with_so_many_moves() {
        String both = "ball 0 way 4 pace 1 for 1 way 12 pace 1 for 1;";
        int[][] want = {{8, 25}, {at(-5, -1), 25}, {at(-5, -1), at(2, -1)}, {at(-5, -1), at(2, -1)}};
        for (int most = 0; most <= 3; most++) {
            NineOnGrass x = on(both, 8, 25);
            due("settle(0, " + most + ")", x.settle(0, most), Math.min(2, most));
            stands("at most " + most, x, want[most]);
        }
    }

    @Says("again and again: each goes to ONE, if MEAN is less there (a MOVE); it ends behind a round without MOVES")
    static void p23_behind_a_round_without_moves() {
        // 0 goes between two catches, 1 to one of them; so 0 goes again, to the other; then nobody goes.
        int[][] want = {{at(1, -2), at(0, 2)}, {at(2, -1), at(0, 2)}, {at(2, -1), at(3, 0)}, {at(1, 0), at(3, 0)}};
        for (int most = 0; most <= 4; most++) {
            NineOnGrass x = on("ball 0 way 4 pace 3 air 1 for 3 way 4 pace 3 air 3 for 3;", at(1, -2), at(0, 2));
            due("settle(0, " + most + ")", x.settle(0, most), Math.min(most, 3));
            stands("at most " + most, x, want[Math.min(most, 3)]);
            due("settle(0, 50), the rest", x.settle(0, 50), 3 - Math.min(most, 3));
        }
    }

    @Says("it ends behind a round without MOVES, or with so many MOVES")
    static void p23_not_before_a_whole_round_without_moves() {
        // 0 and 8 go by turns; between them many don't, but no round is without a MOVE up to the fourth.
        int[][] want = {{at(4, 1), at(3, -4)}, {at(-1, -3), at(3, -4)}, {at(-1, -3), at(0, -8)}, {at(-2, -2), at(0, -8)},
            {at(-2, -2), at(0, -5)}, {at(-2, -2), at(0, -5)}};
        for (int most = 0; most <= 5; most++) {
            NineOnGrass x = on("side 1;ball 0 way 14 pace 3 air 2 for 2 way 0 pace 1 for 3;", at(4, 1));
            x.stand(8, at(3, -4));
            due("settle(0, " + most + ")", x.settle(0, most), Math.min(most, 4));
            due("0, at most " + most, x.of(0, 0), want[most][0]);
            due("8, at most " + most, x.of(8, 0), want[most][1]);
        }
    }

    @Says("SETTLED: FIELDERS that are there, by number, again and again: each goes to ONE, if MEAN is less there (a MOVE)")
    static void p23_as_one_and_mean_tell() {
        for (int i = 0; i < SCENES.length; i++) {
            for (int kind = 0; kind <= 4; kind++) {
                for (int most : new int[] {1, 2, 3, 5, 50}) {
                    NineOnGrass x = scene(i, kind);
                    NineOnGrass y = scene(i, kind);
                    String what = "scene " + i + ", KIND " + kind + ", most " + most;
                    due(what, x.settle(0, most), told(y, most));
                    for (int f = 0; f < 9; f++) {
                        due(what + ", STAND of " + f, x.of(f, 0), y.of(f, 0));
                    }
                }
            }
        }
    }

    private static int told(NineOnGrass x, int most) {
        int moves = 0;
        int before = -1;
        while (moves < most && moves != before) {
            before = moves;
            for (int f = 0; f < 9 && moves < most; f++) {
                int cell = x.of(f, 0) == NONE ? NONE : x.one(f, 0);
                if (cell != NONE && x.brave(f, 0, cell) && x.upper() < 0) {
                    x.stand(f, cell);
                    moves++;
                }
            }
        }
        return moves;
    }

    @Says({"SETTLED, with at most so many MOVES (0 to 50): how many there were.", "IllegalArgumentException: the number."})
    static void p23_moves_0_to_50() {
        NineOnGrass x = on(EAST, at(0, 5));
        for (int most : new int[] {-1, 51, LEAST, GREATEST}) {
            refused("settle(0, " + most + ")", BAD, () -> x.settle(0, most));
            due("nobody went", x.of(0, 0), at(0, 5));
        }
        due("settle(0, 0)", x.settle(0, 0), 0);
        due("nobody went", x.of(0, 0), at(0, 5));
        due("settle(0, 50)", x.settle(0, 50), 1);
        for (int ball : NO_BALLS) {
            refused("settle(" + ball + ", 0)", NO_SUCH, () -> x.settle(ball, 0));
            refused("settle(" + ball + ", 51)", NO_SUCH, () -> x.settle(ball, 51));
        }
    }

    @Says("ONE; NONE: no CELL, or no MEAN.")
    static void p23_without_one_no_moves() {
        NineOnGrass x = on(EAST, at(0, 5), 0);
        due("another isn't IN: 0 has no ONE, but it goes itself", x.settle(0, 50), 1);
        stands("1 went", x, at(0, 5), at(2, -1));
        x = on(EAST, 0, 0);
        due("neither has", x.settle(0, 50), 0);
        stands("nobody went", x, 0, 0);
        x = on(EAST, at(0, 5));
        due("no HITS", x.settle(1, 50), 0);
        stands("nobody went", x, at(0, 5));
    }

    // ---- promise 24: bound

    @Says({"on any CELL that is IN and not less than near FAR from the BAT", "BOUND of a BALL: of each HIT let c be the greatest CATCH"})
    static void p24_not_less_than_near_far_from_the_bat() {
        // Down at step 2, TICK 2: from near the CATCH is 80 less 10 times FAR, up to FAR 2.
        int[] bounds = {-16, -16, -16, -14, -12, 0};
        for (int near = 0; near <= 5; near++) {
            NineOnGrass x = on("near " + near + ";ball 0 way 4 pace 1 air 2 for 1;", at(8, 0));
            x.fielder(0, 1, 80, 10, 1);
            fraction("near " + near, x, x.bound(0), bounds[near], 1);
        }
    }

    @Says("on any CELL that is IN and not less than near FAR from the BAT")
    static void p24_on_any_cell_that_is_in() {
        // Only the ends of the four ways straight on are IN and FAR 8: FAR 4 of step 4, FAR 5 of step 5.
        NineOnGrass x = on("near 8;ball 0 way 2 pace 5 for 1;", 0);
        x.fielder(0, 5, 80, 10, 1);
        fraction("PACE 5: 20 and 4 by 9", x, x.bound(0), 2, 1);
        x.fielder(0, 6, 80, 10, 1);
        fraction("PACE 6: 24 is above 20, 30 above 25", x, x.bound(0), 4, 1);
        x = on("near 8;edge 7;ball 0 way 2 pace 5 for 1;", at(5, 5));
        x.fielder(0, 1, 80, 10, 1);
        fraction("no CELL at all", x, x.bound(0), 4, 1);
        x = on("near 7;edge 7;ball 0 way 4 pace 1 for 1;", 0);
        x.fielder(0, 9, 80, 10, 0);
        fraction("the last CELL alone", x, x.bound(0), 0, 1);
    }

    @Says("of each HIT let c be the greatest CATCH, and r the least RUNS, of any FIELDER that is there (each alone, "
            + "c as it is CATCHER, r as if nobody were CATCHER)")
    static void p24_each_alone_of_any_fielder_that_is_there() {
        // Far outside, where the HIT comes down, and behind that: where they stand, and who else, is all one.
        for (int cell : new int[] {0, at(2, 0), at(3, 0)}) {
            NineOnGrass x = on("ball 0 way 4 pace 1 air 2 for 1;", cell, cell, NONE, cell);
            x.fielder(0, 9, 10, 0, 9);
            x.fielder(1, 9, 30, 0, 9);
            x.fielder(2, 1, 100, 0, 0);
            x.fielder(3, 9, 20, 0, 9);
            // r of each is 3: 3 and 9 times 3, by 9.
            fraction("70 times 3 less 600", x, x.bound(0), -39, 10);
            x.fielder(3, 9, 20, 0, 0);
            fraction("CATCH 30 of 1, r 0 of 3", x, x.bound(0), -6, 1);
            x.stand(1, NONE);
            fraction("without 1", x, x.bound(0), -4, 1);
            x.stand(2, cell);
            fraction("with 2", x, x.bound(0), -20, 1);
        }
        // Who has the catch stops it too, as if nobody were CATCHER.
        NineOnGrass x = on("ball 0 way 4 pace 1 air 2 for 1;", at(2, 0));
        due("as it stands there is no STOP", x.stops(0, 0), NONE);
        fraction("c 80 and r 0", x, x.bound(0), -16, 1);
    }

    @Says("(c 0, r 4 or 6 without)")
    static void p24_c_0_r_4_or_6_without() {
        NineOnGrass x = on("edge 3;ball 0 way 4 pace 1 for 1;ball 1 way 4 pace 1 air 3 for 1;ball 2 way 4 pace 1 air 4 for 1;");
        fraction("nobody, air 0", x, x.bound(0), 4, 1);
        fraction("nobody, air at STEPS", x, x.bound(1), 4, 1);
        fraction("nobody, air above STEPS", x, x.bound(2), 6, 1);
        x.stand(8, at(1, 0));
        fraction("air 0", x, x.bound(0), 0, 1);
        fraction("air at STEPS: a CATCH, no STOP: 20 times 4 less 1600", x, x.bound(1), -76, 5);
        fraction("air above STEPS", x, x.bound(2), 6, 1);
        x.fielder(8, 9, 0, 0, 9);
        fraction("HANDS 0", x, x.bound(1), 4, 1);
    }

    @Says("(100 less c) times r, less worth times c; for times that by all for by 100")
    static void p24_for_times_that_by_all_for_by_100() {
        NineOnGrass x = on("edge 3;worth 10;run 1;ball 0 way 4 pace 9 for 5 way 4 pace 9 air 4 for 2 way 4 pace 9 air 2 for 3;",
                at(1, 0));
        // 300, 600, and (20 times 3 less 800): 1500, 1200 and 3 times less 740 by 1000.
        fraction("three", x, x.bound(0), 12, 25);
        x.batter(1, 100);
        fraction("who looks isn't asked", x, x.bound(0), 12, 25);
        x.batter(2, 0);
        fraction("kept down", x, x.bound(0), 3, 1);
    }

    @Says({"BOUND is the FRACTION: true; without HITS 0 over 0: false.", "no such BALL (0 to 5; as everywhere)"})
    static void p24_without_hits_0_over_0() {
        NineOnGrass x = on("ball 5 way 4 pace 1 for 1;", at(1, 0));
        fraction("bound(5)", x, x.bound(5), 0, 1);
        noFraction("bound(0)", x, x.bound(0));
        for (int ball : NO_BALLS) {
            refused("bound(" + ball + ")", NO_SUCH, () -> x.bound(ball));
        }
    }

    // ---- promise 25: gap

    @Says({"GAP: MEAN less BOUND.", "GAP is the FRACTION: likewise."})
    static void p25_mean_less_bound() {
        NineOnGrass x = on("run 60;ball 5 way 4 pace 1 for 1 way 12 pace 1 for 2;", at(1, 0));
        fraction("8 by 3 less 0", x, x.gap(5), 8, 3);
        x.batter(1, 50);
        fraction("of one who looks: 10 by 3", x, x.gap(5), 10, 3);
        x.batter(1, 100);
        fraction("of one who looks all the time", x, x.gap(5), 4, 1);
        x.stand(1, at(-1, 0));
        fraction("0: 0 over 1", x, x.gap(5), 0, 1);
        noFraction("without HITS", x, x.gap(0));
        for (int ball : NO_BALLS) {
            refused("gap(" + ball + ")", NO_SUCH, () -> x.gap(ball));
        }
        NineOnGrass y = on("ball 0 way 4 pace 1 air 2 for 1;", at(2, 0));
        fraction("20 times 4 less 1600, less that of 0", y, y.gap(0), 4, 5);
    }
}
