/** The edges of FIELDERS, JUDGE and the BATTER: promises 8 to 12. */
public final class FielderEdgesTest extends Due {
    private static final int[] FIRST = {3, 80, 10, 1};

    public static void main(String[] args) {
        run(FielderEdgesTest.class);
    }

    // ---- promise 8: fielder

    @Says("PACE (1 to 9; 3 at first), HANDS (0 to 100; 80), PER (0 to 50; 10), ARM (0 to 9; 1)")
    static void p08_pace_hands_per_arm_at_first() {
        NineOnGrass x = new NineOnGrass();
        for (int f = 0; f <= 8; f++) {
            for (int what = 1; what <= 4; what++) {
                due("of(" + f + ", " + what + ")", x.of(f, what), FIRST[what - 1]);
            }
        }
    }

    @Says({"PACE (1 to 9; 3 at first), HANDS (0 to 100; 80), PER (0 to 50; 10), ARM (0 to 9; 1)",
        "IllegalArgumentException: a number."})
    static void p08_pace_hands_per_arm_least_and_greatest() {
        int[] least = {1, 0, 0, 0};
        int[] most = {9, 100, 50, 9};
        for (int what = 0; what < 4; what++) {
            NineOnGrass x = new NineOnGrass();
            for (int n : new int[] {least[what], least[what] + 1, most[what] - 1, most[what]}) {
                change(x, 4, what, n);
                due("of(4, " + (what + 1) + ")", x.of(4, what + 1), n);
            }
            for (int n : new int[] {least[what] - 1, most[what] + 1, LEAST, GREATEST}) {
                int which = what;
                refused("number " + what + " is " + n, BAD, () -> change(x, 4, which, n));
                due("of(4, " + (what + 1) + ") stays", x.of(4, what + 1), most[what]);
            }
        }
    }

    /** Number 0 to 3 of a FIELDER is n, the others as at first. */
    private static void change(NineOnGrass x, int f, int number, int n) {
        int[] all = FIRST.clone();
        all[number] = n;
        x.fielder(f, all[0], all[1], all[2], all[3]);
    }

    @Says({"PACE, HANDS, PER, ARM of a FIELDER.", "FIELDERS 0 to 8"})
    static void p08_of_a_fielder_0_to_8_and_of_no_other() {
        for (int f = 0; f <= 8; f++) {
            NineOnGrass x = new NineOnGrass();
            x.fielder(f, 9, 100, 50, 0);
            int[] own = {9, 100, 50, 0};
            for (int other = 0; other <= 8; other++) {
                for (int what = 1; what <= 4; what++) {
                    due("of(" + other + ", " + what + ")", x.of(other, what), (other == f ? own : FIRST)[what - 1]);
                }
                due("STAND of " + other, x.of(other, 0), NONE);
            }
        }
    }

    @Says("NoSuchElementException: no such FIELDER (as everywhere)")
    static void p08_no_such_fielder() {
        NineOnGrass x = new NineOnGrass();
        for (int f : NO_FIELDERS) {
            refused("fielder(" + f + " ..)", NO_SUCH, () -> x.fielder(f, 3, 80, 10, 1));
            refused("fielder(" + f + " ..), a number", NO_SUCH, () -> x.fielder(f, 0, 101, 51, 10));
        }
    }

    // ---- promise 9: stand

    @Says({"Its STAND is a CELL (NONE: it isn't there): what it was.", "CELLS 0 to 288: 17 times y and x (0 to 16 each)"})
    static void p09_what_it_was() {
        NineOnGrass x = new NineOnGrass();
        int[] cells = {0, 288, 0, NONE, NONE, 16, 17, 271, 272, 144};
        int was = NONE;
        for (int cell : cells) {
            due("stand(8, " + cell + ")", x.stand(8, cell), was);
            due("of(8, 0)", x.of(8, 0), cell);
            due("how many are there", x.count(6), cell == NONE ? 0 : 1);
            was = cell;
        }
        due("another", x.of(7, 0), NONE);
    }

    @Says("IllegalArgumentException: no such CELL.")
    static void p09_no_such_cell() {
        NineOnGrass x = new NineOnGrass();
        x.stand(0, 288);
        for (int cell : new int[] {-2, 289, LEAST, GREATEST}) {
            refused("stand(0, " + cell + ")", BAD, () -> x.stand(0, cell));
            due("STAND stays", x.of(0, 0), 288);
        }
    }

    @Says("NoSuchElementException: no such FIELDER (as everywhere)")
    static void p09_no_such_fielder() {
        NineOnGrass x = new NineOnGrass();
        for (int f : NO_FIELDERS) {
            refused("stand(" + f + ", 0)", NO_SUCH, () -> x.stand(f, 0));
            refused("stand(" + f + ", 289)", NO_SUCH, () -> x.stand(f, 289));
        }
        for (int f = 0; f <= 8; f++) {
            due("stand(" + f + ", " + f + ")", x.stand(f, f), NONE);
        }
        stands("nine", x, 0, 1, 2, 3, 4, 5, 6, 7, 8);
        due("judge: two may stand alike, LAWFUL or not", x.stand(8, 7), 8);
    }

    // ---- promise 10: of

    @Says("Of a FIELDER, what 0: STAND, 1: PACE, 2: HANDS, 3: PER, 4: ARM. IllegalArgumentException: another what.")
    static void p10_what_0_to_4() {
        NineOnGrass x = new NineOnGrass();
        x.fielder(0, 2, 30, 40, 5);
        x.stand(0, 77);
        int[] want = {77, 2, 30, 40, 5};
        for (int what = 0; what <= 4; what++) {
            due("of(0, " + what + ")", x.of(0, what), want[what]);
        }
        for (int what : new int[] {-1, 5, LEAST, GREATEST}) {
            refused("of(0, " + what + ")", BAD, () -> x.of(0, what));
        }
    }

    @Says("NoSuchElementException: no such FIELDER (as everywhere)")
    static void p10_no_such_fielder() {
        NineOnGrass x = new NineOnGrass();
        for (int f : NO_FIELDERS) {
            for (int what = -1; what <= 5; what++) {
                int w = what;
                refused("of(" + f + ", " + what + ")", NO_SUCH, () -> x.of(f, w));
            }
        }
    }

    // ---- promise 11: judge

    private static void judged(String what, int want, String text, int... stands) {
        due(what, on(text, stands).judge(), want);
    }

    @Says({"1 its CELL isn't IN", "A CELL lies IN, if the squares of its x less 8 and its y less 8 together "
        + "are no more than edge squared."})
    static void p11_1_its_cell_isnt_in() {
        for (int edge = 2; edge <= 8; edge++) {
            for (int half = 0; half < 2; half++) {
                NineOnGrass x = on("near 0;edge " + edge + ";");
                for (int cell = 145 * half; cell < 145 + 144 * half; cell++) {
                    x.stand(3, cell);
                    int east = cell % 17 - 8;
                    int south = cell / 17 - 8;
                    due("edge " + edge + ", CELL " + cell, x.judge(),
                            east * east + south * south <= edge * edge ? NONE : 31);
                }
            }
        }
        judged("25 is no more than 25", NONE, "edge 5;", at(3, 4));
        judged("26 is more than 25", 1, "edge 5;", at(5, 1));
    }

    @Says({"2 it is less than near FAR from the BAT", "FAR of two CELLS is the greater of the differences of x and of y"})
    static void p11_2_it_is_less_than_near_far_from_the_bat() {
        for (int near = 0; near <= 8; near++) {
            String text = "near " + near + ";";
            int[][] sides = {{1, 0}, {-1, 0}, {0, 1}, {0, -1}};
            for (int[] side : sides) {
                judged("FAR near, " + near, NONE, text, at(near * side[0], near * side[1]));
                if (near > 0) {
                    judged("FAR near less 1, " + near, 2, text, at((near - 1) * side[0], (near - 1) * side[1]));
                }
            }
            if (near < 8) {
                judged("FAR near and 1, " + near, NONE, text, at(near + 1, 0));
            }
        }
        judged("the greater of the two: 3, not 5 together", 2, "near 4;", at(3, 2));
        judged("the greater of the two: 3", NONE, "near 3;", at(3, -2));
        judged("the greater of the two: 3", NONE, "near 3;", at(-2, 3));
        judged("the greater of the two: 2", 2, "near 3;", at(2, 2));
    }

    @Says("3 a lesser one has its CELL")
    static void p11_3_a_lesser_one_has_its_cell() {
        for (int lesser = 0; lesser < 8; lesser++) {
            for (int f = lesser + 1; f <= 8; f++) {
                NineOnGrass x = on("");
                x.stand(lesser, at(2, 2));
                x.stand(f, at(2, 2));
                due(lesser + " and " + f, x.judge(), 10 * f + 3);
                x.stand(lesser, at(2, 3));
                due("beside", x.judge(), NONE);
            }
        }
        judged("three on one: the second", 13, "", at(2, 2), at(2, 2), at(2, 2));
        judged("two who aren't there have no CELL", NONE, "", NONE, NONE, at(2, 2));
    }

    @Says("4 it and lesser ones that are there, more than side together, have x below 8")
    static void p11_4_more_than_side_have_x_below_8() {
        for (int side = 0; side <= 9; side++) {
            NineOnGrass x = on("side " + side + ";");
            for (int f = 0; f < 9; f++) {
                x.stand(f, at(-1, f - 4));
                due("side " + side + ", " + (f + 1) + " on the left", x.judge(), f < side ? NONE : 10 * side + 4);
            }
        }
        judged("x 7 is below 8", 4, "side 0;", at(-1, 0));
        judged("x 8 isn't below 8", NONE, "side 0;", at(0, 1));
        judged("x 0 is below 8", 4, "side 0;", at(-8, 0));
        judged("the greater one is one too many", 24, "side 1;", at(-1, 0), NONE, at(-1, 1));
        judged("who stands right of it doesn't count", NONE, "side 1;", at(0, 1), at(-1, 0), at(1, 1), at(0, 2));
        judged("who isn't there doesn't count", NONE, "side 1;", NONE, NONE, NONE, at(-1, 0), NONE);
    }

    @Says("JUDGE: of FIELDERS that are there, by number, the first for which (of one the first of these)")
    static void p11_by_number_the_first_of_one_the_first_of_these() {
        judged("FIELDER 0 by 4, 1 by 1", 4, "side 0;", at(-1, 0), 0);
        judged("FIELDER 1 by 4, 2 by 2", 14, "side 0;", at(1, 0), at(-1, 0), 144);
        judged("FIELDER 2 by 3, 3 by 2", 23, "", NONE, at(1, 0), at(1, 0), 144);
        judged("FIELDER 0 by 2, 1 by 1", 2, "", 144, 0);
        judged("1 before 2", 1, "edge 2;near 8;", at(3, 0));
        judged("2, if it is IN", 2, "edge 3;near 8;", at(3, 0));
        judged("1 before 4", 1, "side 0;edge 2;", at(-3, 0));
        judged("2 before 4", 2, "side 0;near 2;", at(-1, 0));
        judged("3 before 4", 13, "side 1;", at(-1, 0), at(-1, 0));
        judged("1 before 2 and 4", 1, "side 0;edge 2;near 8;", at(-3, 0));
    }

    @Says({"10 times it, and that; NONE: LAWFUL.", "JUDGE."})
    static void p11_ten_times_it_and_that_none_lawful() {
        due("nobody", on("edge 2;near 8;side 0;").judge(), NONE);
        for (int f = 0; f <= 8; f++) {
            NineOnGrass x = on("side 0;");
            x.stand(f, at(-8, -8));
            due("not IN", x.judge(), 10 * f + 1);
            x.stand(f, at(0, 0));
            due("too near", x.judge(), 10 * f + 2);
            x.stand(f, at(-4, 2));
            due("one too many on the left", x.judge(), 10 * f + 4);
            x.stand(f, at(4, 2));
            due("LAWFUL", x.judge(), NONE);
            x.stand(f, NONE);
            due("gone", x.judge(), NONE);
        }
    }

    // ---- promise 12: batter

    @Says({"The BATTER. IllegalArgumentException: a number.", "a SHARE (0 to 100; 0 at first; only who looks has use of it)"})
    static void p12_kind_0_to_4_share_0_to_100() {
        NineOnGrass x = new NineOnGrass();
        for (int kind = 0; kind <= 4; kind++) {
            for (int share : new int[] {0, 1, 99, 100}) {
                x.batter(kind, share);
                counts("batter(" + kind + ", " + share + ")", x, 8, kind, share);
            }
        }
        for (int n : new int[] {-1, 5, LEAST, GREATEST}) {
            refused("batter(" + n + ", 0)", BAD, () -> x.batter(n, 0));
        }
        for (int n : new int[] {-1, 101, LEAST, GREATEST}) {
            refused("batter(0, " + n + ")", BAD, () -> x.batter(0, n));
        }
        counts("the BATTER stays", x, 8, 4, 100);
    }

    @Says("only who looks has use of it")
    static void p12_only_who_looks_has_use_of_share() {
        NineOnGrass x = on("run 60;ball 0 way 4 pace 1 for 1 way 12 pace 1 air 8 for 1;", at(1, 0), NONE, NONE, at(-1, 0));
        // East it is stopped for 0, west it brings 4; lifted it brings 4 on both sides.
        int[] mean = {2, 4, 0, 4, 2};
        for (int kind = 0; kind <= 4; kind++) {
            x.batter(kind, 100);
            fraction("MEAN by kind " + kind, x, x.mean(0), mean[kind], 1);
        }
    }

    private static final String AIRS = "ball 0 way 0 pace 1 for 1 way 1 pace 1 air 1 for 1 way 2 pace 1 air 2 for 1 "
            + "way 7 pace 1 air 3 for 1 way 8 pace 1 air 4 for 1 way 9 pace 1 air 8 for 1 way 14 pace 1 for 1 "
            + "way 15 pace 1 for 1;";

    private static void made(int kind, int what, int... want) {
        NineOnGrass x = on(AIRS);
        x.batter(kind, 50);
        for (int hit = 0; hit < want.length; hit++) {
            due("hit(0, " + hit + ", " + what + ") by kind " + kind, x.hit(0, hit, what), want[hit]);
        }
        x.batter(0, 0);
        for (int hit = 0; hit < 8; hit++) {
            due("told, hit " + hit, x.hit(0, hit, what), on(AIRS).hit(0, hit, what));
        }
    }

    @Says({"BATTER: a KIND: 0 plain, 1 looks", "HITS below are as the BATTER makes them."})
    static void p12_plain_and_who_looks_make_them_as_told() {
        for (int kind = 0; kind <= 1; kind++) {
            made(kind, 0, 0, 1, 2, 7, 8, 9, 14, 15);
            made(kind, 2, 0, 1, 2, 3, 4, 8, 0, 0);
        }
    }

    @Says("2 keeps it down (air 0 of all HITS)")
    static void p12_keeps_it_down_air_0_of_all_hits() {
        made(2, 2, 0, 0, 0, 0, 0, 0, 0, 0);
        made(2, 0, 0, 1, 2, 7, 8, 9, 14, 15);
    }

    @Says("3 lifts it (air at least 3)")
    static void p12_lifts_it_air_at_least_3() {
        made(3, 2, 3, 3, 3, 3, 4, 8, 3, 3);
        made(3, 0, 0, 1, 2, 7, 8, 9, 14, 15);
    }

    @Says("4 stands the other way (way 16 less way, of 16 and more 16 less)")
    static void p12_stands_the_other_way_16_less_way() {
        made(4, 0, 0, 15, 14, 9, 8, 7, 2, 1);
        made(4, 2, 0, 1, 2, 3, 4, 8, 0, 0);
        for (int way = 0; way < 16; way++) {
            NineOnGrass x = on("ball 0 way " + way + " pace 1 for 1;");
            x.batter(4, 0);
            due("way " + way, x.hit(0, 0, 0), way == 0 ? 0 : 16 - way);
        }
    }

    @Says({"HITS below are as the BATTER makes them.", "2: air (as the BATTER makes them)"})
    static void p12_hits_below_are_as_the_batter_makes_them() {
        NineOnGrass x = on("slow 5 at " + at(1, 0) + " " + at(-1, 0) + ";ball 0 way 4 pace 2 for 1;");
        due("tick", x.tick(0, 0, 1), 7);
        x.batter(3, 0);
        due("tick of a lifted one", x.tick(0, 0, 1), 2);
        x = on("edge 2;ball 0 way 4 pace 2 for 1;");
        due("runs", x.runs(0, 0), 4);
        x.batter(3, 0);
        due("runs of one lifted over the edge", x.runs(0, 0), 6);
        x = on("ball 0 way 4 pace 1 for 1;", at(-1, 0));
        due("stopper", x.stopper(0, 0), NONE);
        x.batter(4, 0);
        due("stopper, the other way", x.stopper(0, 0), 0);
    }
}
