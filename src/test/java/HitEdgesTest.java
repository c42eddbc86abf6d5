/** The edges of what comes of a HIT: promises 13 to 21. */
public final class HitEdgesTest extends Due {
    public static void main(String[] args) {
        run(HitEdgesTest.class);
    }

    // ---- promises 13 and 14: who catches, and how likely

    @Says({"CATCH (air 1 to STEPS)", "CATCHER NONE: nobody.", "`int catcher(int ball, int hit) throws NoSuchElementException`: The CATCHER."})
    static void p13_catch_air_1_to_steps() {
        String text = "edge 4;ball 0 way 4 pace 1 for 1 way 4 pace 1 air 1 for 1 way 4 pace 1 air 4 for 1 "
                + "way 4 pace 1 air 5 for 1;";
        NineOnGrass x = on(text, at(1, 0), at(4, 0), at(5, 0));
        for (int f = 0; f < 3; f++) {
            x.fielder(f, 9, 80, 10, 1);
        }
        outcome("air 0", x, 0, NONE, 0, 0, 1, 0, 0);
        outcome("air 1", x, 1, 0, 80, 1, 4, 0, -1600);
        outcome("air STEPS", x, 2, 1, 80, NONE, NONE, 4, 80 - 1600);
        outcome("air STEPS and 1", x, 3, NONE, 0, NONE, NONE, 6, 600);
    }

    @Says("CATCH (air 1 to STEPS)")
    static void p13_without_steps_nobody_catches() {
        NineOnGrass x = on("edge 2;near 0;ball 0 way 1 pace 9 air 1 for 1 way 1 pace 9 for 1;", at(0, 0), at(1, -2));
        outcome("air above STEPS", x, 0, NONE, 0, NONE, NONE, 6, 600);
        outcome("air 0", x, 1, NONE, 0, NONE, NONE, 4, 400);
    }

    @Says("FAR of its STAND and that CELL times its PACE is no more than TICK.")
    static void p13_far_times_pace_is_no_more_than_tick() {
        // Down at step 2, TICK 6.
        int[][] cases = {{3, 2, 0}, {3, 3, NONE}, {6, 1, 0}, {7, 1, NONE}, {1, 6, 0}, {1, 7, NONE}, {9, 0, 0}, {9, 1, NONE}};
        for (int[] c : cases) {
            NineOnGrass x = on("ball 0 way 4 pace 3 air 2 for 1;", at(2, c[1]));
            x.fielder(0, c[0], 80, 10, 1);
            due("PACE " + c[0] + ", FAR " + c[1], x.catcher(0, 0), c[2]);
        }
    }

    @Says("FAR of two CELLS is the greater of the differences of x and of y")
    static void p13_far_is_the_greater_difference() {
        int[][] beside = {{2, 0, 2}, {-2, 0, 2}, {0, 2, 2}, {0, -2, 2}, {2, 2, 2}, {-2, 2, 2}, {1, -2, 2}, {-1, -1, 1}, {2, 1, 2},
            {3, 1, 3}, {1, 3, 3}, {-3, 3, 3}, {0, 1, 1}};
        for (int[] b : beside) {
            NineOnGrass x = on("ball 0 way 4 pace 9 air 2 for 1;", at(2 + b[0], b[1]));
            x.fielder(0, 6, 80, 10, 1);
            due("caught from " + b[0] + ", " + b[1], x.caught(0, 0), 80 - 10 * b[2]);
            x.fielder(0, 9, 80, 10, 1);
            due("reached from " + b[0] + ", " + b[1], x.catcher(0, 0), b[2] <= 2 ? 0 : NONE);
        }
    }

    @Says("A FIELDER REACHES step k, if k isn't below air (1 at least)")
    static void p13_reaches_if_k_isnt_below_air() {
        NineOnGrass x = on("ball 0 way 4 pace 9 air 3 for 1;", at(1, 0), at(2, 0));
        x.fielder(0, 9, 80, 10, 1);
        x.fielder(1, 9, 80, 10, 1);
        // FAR 1 and PACE 9 of TICK 27 at step 3; at steps 1 and 2 it is over their heads.
        outcome("caught at 3", x, 0, 1, 70, 0, 4, 3, 30 * 3 - 20 * 70);
    }

    @Says("CATCH (air 1 to STEPS): of FIELDERS that REACH step air the one with the least FAR times PACE, then the least")
    static void p13_the_least_far_times_pace_then_the_least() {
        String text = "ball 0 way 4 pace 9 air 2 for 1;";
        int[][] cases = {
            // PACE, FAR of FIELDER 2, of FIELDER 5: who
            {1, 3, 4, 1, 2}, {4, 1, 1, 3, 5}, {2, 2, 4, 1, 2}, {4, 1, 2, 2, 2}, {9, 0, 1, 1, 2}, {1, 1, 9, 0, 5},
            {9, 2, 9, 3, 2}, {9, 3, 9, 2, 5}, {3, 1, 3, 1, 2}, {9, 0, 9, 0, 2}};
        for (int[] c : cases) {
            NineOnGrass x = on(text, NONE, NONE, at(2, c[1]), NONE, NONE, at(2, -c[3]));
            x.fielder(2, c[0], 80, 10, 1);
            x.fielder(5, c[2], 80, 10, 1);
            due("catcher: " + c[0] + " " + c[1] + ", " + c[2] + " " + c[3], x.catcher(0, 0), c[4]);
        }
    }

    @Says({"CATCHER NONE: nobody.", "CATCH, of 100 (0 without a CATCHER)."})
    static void p14_0_without_a_catcher() {
        NineOnGrass x = on("ball 0 way 4 pace 1 air 2 for 1;");
        outcome("nobody is there", x, 0, NONE, 0, NONE, NONE, 4, 400);
        x.stand(0, at(2, 1));
        outcome("one comes too late, and catches up at 4", x, 0, NONE, 0, 0, 3, 0, 0);
        x.stand(0, at(2, 0));
        outcome("it stands there", x, 0, 0, 80, NONE, NONE, 4, 20 * 4 - 20 * 80);
    }

    @Says("by HANDS less PER times FAR (0 at least) of 100 it is OUT")
    static void p14_hands_less_per_times_far_0_at_least() {
        int[][] cases = {
            // HANDS, PER, FAR: CATCH
            {80, 10, 0, 80}, {80, 10, 1, 70}, {50, 50, 1, 0}, {50, 49, 1, 1}, {49, 50, 1, 0}, {100, 50, 2, 0},
            {100, 50, 3, 0}, {100, 49, 2, 2}, {100, 0, 8, 100}, {0, 0, 0, 0}, {0, 50, 8, 0}, {1, 0, 3, 1}, {100, 50, 0, 100}};
        for (int[] c : cases) {
            NineOnGrass x = on("ball 0 way 4 pace 9 air 2 for 1;", at(2, c[2]));
            x.fielder(0, 1, c[0], c[1], 1);
            due("catcher", x.catcher(0, 0), 0);
            due("HANDS " + c[0] + ", PER " + c[1] + ", FAR " + c[2], x.caught(0, 0), c[3]);
            due("cost", x.cost(0, 0), (100 - c[3]) * 4 - 20 * c[3]);
        }
    }

    // ---- promises 15 and 16: who stops it, and where

    @Says("STOP: the least step above air that a FIELDER (not the CATCHER) REACHES")
    static void p16_the_least_step_above_air() {
        // FIELDER 8 has the catch; 0 stands at step 1, 1 at step 2, 2 at step 3.
        int[] stops = {1, 2, 3, NONE};
        for (int air = 0; air <= 3; air++) {
            String text = "edge 3;ball 0 way 4 pace 1" + (air > 0 ? " air " + air : "") + " for 1;";
            NineOnGrass x = on(text, at(1, 0), at(2, 0), at(3, 0));
            for (int f = 0; f < 3; f++) {
                x.fielder(f, 9, 80, 10, 1);
            }
            due("stops, air " + air, x.stops(0, 0), stops[air]);
            due("stopper, air " + air, x.stopper(0, 0), stops[air] == NONE ? NONE : stops[air] - 1);
            due("catcher, air " + air, x.catcher(0, 0), air == 0 ? NONE : air - 1);
        }
    }

    @Says("that a FIELDER (not the CATCHER) REACHES")
    static void p15_not_the_catcher() {
        NineOnGrass x = on("ball 0 way 4 pace 9 air 2 for 1;", at(3, 0));
        outcome("the CATCHER alone", x, 0, 0, 70, NONE, NONE, 4, 30 * 4 - 20 * 70);
        x.fielder(0, 3, 0, 10, 1);
        outcome("also with a CATCH of 0", x, 0, 0, 0, NONE, NONE, 4, 400);
        x.stand(1, at(8, 0));
        outcome("another is later, and stops it", x, 0, 0, 0, 1, 3, 3, 300);
        x.batter(2, 0);
        outcome("without a CATCHER it stops", x, 0, NONE, 0, 0, 1, 1, 100);
    }

    @Says({"of these the one with the least FAR times PACE, then the least. RUNS", "Who makes the STOP; NONE."})
    static void p15_of_these_the_least_far_times_pace_then_the_least() {
        int[][] cases = {{1, 3, 4, 1, 2}, {4, 1, 1, 3, 5}, {2, 2, 4, 1, 2}, {4, 1, 2, 2, 2}, {9, 0, 1, 1, 2}, {1, 1, 9, 0, 5},
            {3, 1, 3, 1, 2}, {9, 0, 9, 0, 2}, {9, 1, 8, 1, 5}, {8, 1, 9, 1, 2}};
        for (int[] c : cases) {
            NineOnGrass x = on("ball 0 way 4 pace 9 for 1;", NONE, NONE, at(1, c[1]), NONE, NONE, at(1, -c[3]));
            x.fielder(2, c[0], 80, 10, 1);
            x.fielder(5, c[2], 80, 10, 1);
            due("stopper: " + c[0] + " " + c[1] + ", " + c[2] + " " + c[3], x.stopper(0, 0), c[4]);
            due("stops", x.stops(0, 0), 1);
        }
    }

    @Says("the least step above air that a FIELDER (not the CATCHER) REACHES; of these the one")
    static void p15_who_is_nearer_at_a_later_step_doesnt_stop() {
        NineOnGrass x = on("ball 0 way 4 pace 3 for 1;", at(2, 0), at(1, 1));
        due("stopper", x.stopper(0, 0), 0);
        x.fielder(0, 4, 80, 10, 1);
        outcome("1 has it at step 1", x, 0, NONE, 0, 1, 1, 0, 0);
    }

    @Says({"At which step; NONE.", "FAR of its STAND and that CELL times its PACE is no more than TICK."})
    static void p16_at_which_step_none() {
        // At step k it is k less 4 from 148, TICK 2 k.
        int[][] cases = {{1, 2}, {2, 2}, {3, 3}, {4, 3}, {6, 3}, {7, 4}, {9, 4}};
        for (int[] c : cases) {
            NineOnGrass x = on("ball 0 way 4 pace 2 for 1;", at(4, 0));
            x.fielder(0, c[0], 80, 10, 1);
            due("stops, PACE " + c[0], x.stops(0, 0), c[1]);
        }
        NineOnGrass x = on("ball 0 way 4 pace 1 for 1;", at(-1, 0));
        x.fielder(0, 1, 80, 10, 1);
        outcome("always one behind", x, 0, NONE, 0, NONE, NONE, 4, 400);
        x = on("near 0;ball 0 way 4 pace 1 for 1;", at(0, 0));
        x.fielder(0, 1, 80, 10, 1);
        outcome("step 0 is none", x, 0, NONE, 0, 0, 1, 0, 0);
        x.fielder(0, 2, 80, 10, 1);
        outcome("step 0 is none", x, 0, NONE, 0, NONE, NONE, 4, 400);
        x = on("ball 0 way 4 pace 1 for 1;", at(8, 0));
        x.fielder(0, 9, 80, 10, 0);
        outcome("at the last step", x, 0, NONE, 0, 0, 8, 0, 0);
        x.stand(0, at(8, 1));
        outcome("beside the last step", x, 0, NONE, 0, NONE, NONE, 4, 400);
    }

    @Says("A FIELDER REACHES step k, if k isn't below air (1 at least) and FAR of its STAND")
    static void p16_who_stands_outside_reaches_too() {
        // STANDS need not be LAWFUL: two on one CELL, at the BAT, outside.
        NineOnGrass x = on("edge 2;ball 0 way 4 pace 9 for 1;", at(3, 0), at(3, 0));
        outcome("outside, two alike", x, 0, NONE, 0, 0, 1, 1, 100);
    }

    // ---- promise 17: runs

    @Says("RUNS: TICK of that step and ARM times FAR of that CELL from the BAT, by run (cut), 3 at most")
    static void p17_by_run_cut_3_at_most() {
        int[][] cases = {
            // slow, run, ARM: RUNS of TICK 9 and slow
            {0, 10, 0, 0}, {1, 10, 0, 1}, {10, 10, 0, 1}, {11, 10, 0, 2}, {20, 10, 0, 2}, {20, 10, 1, 3}, {20, 10, 9, 3},
            {20, 9, 7, 3}, {20, 9, 6, 3}, {20, 1, 9, 3}, {0, 9, 0, 1}, {0, 60, 9, 0}, {20, 60, 9, 0}, {0, 3, 0, 3},
            {0, 2, 0, 3}, {20, 38, 9, 1}, {20, 39, 9, 0}, {20, 13, 9, 2}, {20, 12, 9, 3}, {20, 19, 9, 2}, {20, 20, 9, 1}};
        for (int[] c : cases) {
            NineOnGrass x = on("run " + c[1] + ";slow " + c[0] + " at 145;ball 0 way 4 pace 9 for 1;", at(1, 0));
            x.fielder(0, 9, 80, 10, c[2]);
            due("slow " + c[0] + ", run " + c[1] + ", ARM " + c[2], x.runs(0, 0), c[3]);
            due("its COST", x.cost(0, 0), 100 * c[3]);
        }
    }

    @Says("ARM times FAR of that CELL from the BAT")
    static void p17_arm_times_far_of_that_cell_from_the_bat() {
        // Where the STOP is made, not where the FIELDER stood; FAR is the greater difference.
        NineOnGrass x = on("run 20;ball 0 way 3 pace 1 for 1;", at(4, -2));
        x.fielder(0, 9, 80, 10, 9);
        outcome("2 and 9 times 4 by 20", x, 0, NONE, 0, 0, 2, 1, 100);
        x.fielder(0, 9, 80, 10, 4);
        outcome("2 and 4 times 4 by 20", x, 0, NONE, 0, 0, 2, 0, 0);
        x = on("run 20;ball 0 way 4 pace 9 for 1;", at(4, 0));
        x.fielder(0, 3, 80, 10, 9);
        outcome("9 and 9 times 1, by 20", x, 0, NONE, 0, 0, 1, 0, 0);
        x = on("run 18;ball 0 way 4 pace 9 for 1;", at(4, 0));
        x.fielder(0, 3, 80, 10, 9);
        outcome("9 and 9 times 1, by 18", x, 0, NONE, 0, 0, 1, 1, 100);
    }

    @Says({"without a STOP 4, and 6, if air is above STEPS", "`int runs(int ball, int hit) throws NoSuchElementException`: RUNS."})
    static void p17_without_a_stop_4_and_6_if_air_is_above_steps() {
        for (int edge = 2; edge <= 8; edge++) {
            for (int air = 1; air <= 8; air++) {
                NineOnGrass x = on("edge " + edge + ";ball 0 way 4 pace 1 air " + air + " for 1;");
                int want = air > edge ? 6 : 4;
                outcome("edge " + edge + ", air " + air, x, 0, NONE, 0, NONE, NONE, want, 100 * want);
            }
        }
        due("along the ground", on("ball 0 way 4 pace 1 for 1;").runs(0, 0), 4);
        due("along the ground, without STEPS", on("edge 2;ball 0 way 1 pace 1 for 1;").runs(0, 0), 4);
        // One who would stop it counts only, if it comes to a step above air.
        due("air above STEPS, one is there", on("edge 2;ball 0 way 4 pace 9 air 3 for 1;", at(2, 0)).runs(0, 0), 6);
        due("air at STEPS, two are there", on("edge 3;ball 0 way 4 pace 9 air 3 for 1;", at(2, 0), at(3, 0)).runs(0, 0), 4);
    }

    // ---- promise 18: cost

    @Says({"COST, in hundredths: 100 times RUNS without a CATCHER; else (100 less the CATCH) times RUNS, "
        + "less worth times the CATCH.", "COST."})
    static void p18_100_times_runs_less_worth_times_the_catch() {
        int[][] cases = {
            // worth, HANDS: COST of 4 RUNS
            {0, 0, 400}, {99, 0, 400}, {0, 100, 0}, {1, 100, -100}, {99, 100, -9900}, {99, 1, 396 - 99}, {20, 99, 4 - 1980},
            {0, 50, 200}, {1, 1, 395}};
        for (int[] c : cases) {
            NineOnGrass x = on("worth " + c[0] + ";ball 0 way 4 pace 9 air 2 for 1;", at(2, 0));
            x.fielder(0, 3, c[1], 0, 1);
            due("worth " + c[0] + ", CATCH " + c[1], x.cost(0, 0), c[2]);
        }
        // RUNS of who stops it, if it isn't caught.
        NineOnGrass x = on("worth 7;run 9;ball 0 way 4 pace 3 air 2 for 1;", at(2, 0), at(3, 0));
        outcome("12 by 9", x, 0, 0, 80, 1, 3, 1, 20 * 1 - 7 * 80);
        x = on("worth 7;ball 0 way 4 pace 3 for 1;", at(2, 0));
        outcome("worth is without use", x, 0, NONE, 0, 0, 1, 0, 0);
    }

    @Says({"no such BALL (0 to 5; as everywhere)", "no such HIT (as everywhere)"})
    static void p18_no_such_ball_no_such_hit() {
        NineOnGrass x = on("ball 0 way 4 pace 9 for 1;ball 5 way 4 pace 9 for 1 way 4 pace 9 for 1;");
        int[][] none = {{-1, 0}, {6, 0}, {LEAST, 0}, {GREATEST, 0}, {0, -1}, {0, 1}, {5, 2}, {5, -1}, {1, 0}, {0, LEAST}, {0, GREATEST}};
        for (int[] n : none) {
            String which = "(" + n[0] + ", " + n[1] + ")";
            refused("catcher" + which, NO_SUCH, () -> x.catcher(n[0], n[1]));
            refused("caught" + which, NO_SUCH, () -> x.caught(n[0], n[1]));
            refused("stopper" + which, NO_SUCH, () -> x.stopper(n[0], n[1]));
            refused("stops" + which, NO_SUCH, () -> x.stops(n[0], n[1]));
            refused("runs" + which, NO_SUCH, () -> x.runs(n[0], n[1]));
            refused("cost" + which, NO_SUCH, () -> x.cost(n[0], n[1]));
        }
        int[][] some = {{0, 0}, {5, 0}, {5, 1}};
        for (int[] s : some) {
            due("catcher", x.catcher(s[0], s[1]), NONE);
            due("caught", x.caught(s[0], s[1]), 0);
            due("stopper", x.stopper(s[0], s[1]), NONE);
            due("stops", x.stops(s[0], s[1]), NONE);
            due("runs", x.runs(s[0], s[1]), 4);
            due("cost", x.cost(s[0], s[1]), 400);
        }
    }

    // ---- promises 19 to 21: mean, upper, lower

    @Says({"MEAN of a BALL: for times COST of all its HITS, by for of all, by 100",
        "FRACTIONS are told by least numbers, the lower above 0 (0: 0 over 1"})
    static void p19_for_times_cost_by_for_of_all_by_100() {
        String east = " way 4 pace 1 air 8 for ";
        String west = " way 12 pace 1 for ";
        int[][] cases = {
            // for of 4 RUNS, for of 0 RUNS: MEAN
            {1, 1, 2, 1}, {99, 1, 99, 25}, {1, 99, 1, 25}, {99, 99, 2, 1}, {1, 2, 4, 3}, {2, 1, 8, 3}, {3, 4, 12, 7}};
        for (int[] c : cases) {
            NineOnGrass x = on("ball 0" + east + c[0] + west + c[1] + ";", at(-1, 0));
            fraction("for " + c[0] + " and " + c[1], x, x.mean(0), c[2], c[3]);
        }
        NineOnGrass x = on("edge 2;ball 5" + (" way 4 pace 9 air 8 for 99").repeat(8) + ";");
        fraction("8 HITS", x, x.mean(5), 6, 1);
        x = on("ball 0 way 4 pace 1 for 99;", at(1, 0));
        fraction("0: 0 over 1", x, x.mean(0), 0, 1);
        x = on("ball 0 way 4 pace 9 air 2 for 50;", at(2, 0));
        fraction("20 times 4 less 1600, below 0", x, x.mean(0), -76, 5);
        x.fielder(0, 3, 1, 0, 1);
        fraction("99 times 4 less 20", x, x.mean(0), 94, 25);
        x = on("worth 99;ball 0 way 4 pace 9 air 2 for 50;", at(2, 0));
        x.fielder(0, 3, 100, 0, 1);
        fraction("the least MEAN", x, x.mean(0), -99, 1);
    }

    @Says({"0: 0 over 1; without one: 0 over 0; MEAN of a BALL without HITS is none",
        "MEAN is the FRACTION: true; 0 over 0: false.", "no such BALL (0 to 5; as everywhere)"})
    static void p19_mean_of_a_ball_without_hits_is_none() {
        NineOnGrass x = on("ball 3 way 4 pace 1 for 1;");
        fraction("mean(3)", x, x.mean(3), 4, 1);
        for (int ball = 0; ball < 6; ball++) {
            if (ball != 3) {
                noFraction("mean(" + ball + ")", x, x.mean(ball));
            }
        }
        fraction("mean(3)", x, x.mean(3), 4, 1);
        for (int ball : NO_BALLS) {
            refused("mean(" + ball + ")", NO_SUCH, () -> x.mean(ball));
        }
        x.batter(1, 100);
        noFraction("who looks", x, x.mean(0));
    }

    @Says("who looks: (100 less SHARE) hundredths of that, and SHARE hundredths of the greatest COST of its HITS by 100")
    static void p19_share_hundredths_of_the_greatest_cost() {
        NineOnGrass x = on("ball 0 way 4 pace 1 for 3 way 12 pace 1 for 1;", NONE, at(1, 0));
        int[][] cases = {{0, 1, 1}, {1, 103, 100}, {50, 5, 2}, {99, 397, 100}, {100, 4, 1}};
        for (int[] c : cases) {
            x.batter(1, c[0]);
            fraction("SHARE " + c[0], x, x.mean(0), c[1], c[2]);
        }
        // The greatest is the last, the first, or below 0.
        x = on("ball 0 way 12 pace 1 for 1 way 4 pace 1 for 3;", at(1, 0));
        x.batter(1, 100);
        fraction("the first HIT", x, x.mean(0), 4, 1);
        x = on("ball 0 way 4 pace 9 air 2 for 1 way 8 pace 9 air 2 for 1;", at(2, 0), at(0, 2));
        x.fielder(0, 9, 100, 0, 1);
        x.fielder(1, 9, 50, 0, 1);
        x.batter(1, 100);
        // 100 times 0 less 2000; 50 times 3 less 1000, as 0 stops that at its step 3.
        due("the greatest of two below 0", x.cost(0, 1) < 0 && x.cost(0, 0) < x.cost(0, 1), true);
        int most = x.cost(0, 1);
        due("MEAN", x.mean(0), true);
        due("is that", 100 * x.upper(), most * x.lower());
    }

    @Says({"The upper number of the latest FRACTION; 0 without any.", "Its lower number; 0 without any."})
    static void p20_of_the_latest_fraction_0_without_any() {
        NineOnGrass x = new NineOnGrass();
        due("upper()", x.upper(), 0);
        due("lower()", x.lower(), 0);
        noFraction("mean(0)", x, x.mean(0));
        put(x, "ball 0 way 4 pace 1 for 1;ball 1 way 4 pace 1 for 1 way 4 pace 1 air 8 for 2;edge 7;");
        due("no new FRACTION", x.lower(), 0);
        fraction("mean(0)", x, x.mean(0), 4, 1);
        fraction("mean(1)", x, x.mean(1), 16, 3);
        refused("mean(6)", NO_SUCH, () -> x.mean(6));
        due("upper() behind a throw", x.upper(), 16);
        due("lower() behind a throw", x.lower(), 3);
        x.batter(2, 0);
        x.stand(0, 3);
        due("upper() behind other calls", x.upper(), 16);
        due("lower() again", x.lower(), 3);
        noFraction("mean(2)", x, x.mean(2));
    }

    @Says("FRACTIONS are told by least numbers, the lower above 0")
    static void p21_least_numbers_the_lower_above_0() {
        NineOnGrass x = on("worth 1;ball 0 way 4 pace 9 air 2 for 1 way 12 pace 1 for 99;", at(2, 0), at(-1, 0));
        x.fielder(1, 9, 80, 10, 1);
        for (int hands = 0; hands <= 100; hands++) {
            x.fielder(0, 9, hands, 0, 1);
            // West it is stopped for 0; east (100 less HANDS) times 4, less HANDS, by 10000.
            int up = 400 - 5 * hands;
            int common = common(up < 0 ? -up : up, 10000);
            fraction("HANDS " + hands, x, x.mean(0), up / common, 10000 / common);
        }
    }

    private static int common(int a, int b) {
        return b == 0 ? a : common(b, a % b);
    }
}
