/** The edges of TRAYS, IMAGES and count: promises 42 to 47. */
public final class TrayEdgesTest extends Due {
    public static void main(String[] args) {
        run(TrayEdgesTest.class);
    }

    // ---- promise 42: tray

    @Says({"TRAYS 0 to 3 are MISSING at first, or rows of 0 to 40 numbers of 8 bits (sort 0), 16 (1), 32 (2), 64 (3).",
        "IllegalArgumentException: no such sort, or not so many."})
    static void p42_no_such_sort_or_not_so_many() {
        NineOnGrass x = new NineOnGrass();
        for (int sort = 0; sort <= 3; sort++) {
            for (int many : new int[] {0, 1, 39, 40}) {
                x.tray(sort, sort, many);
                int tray = sort;
                int places = many;
                if (many > 0) {
                    due("the last place", x.write(sort, many - 1, 5), 5);
                }
                refused("behind the last", OUTSIDE, () -> x.write(tray, places, 5));
            }
        }
        for (int n : new int[] {-1, 4, LEAST, GREATEST}) {
            refused("tray(0, " + n + ", 1)", BAD, () -> x.tray(0, n, 1));
        }
        for (int n : new int[] {-1, 41, LEAST, GREATEST}) {
            refused("tray(0, 0, " + n + ")", BAD, () -> x.tray(0, 0, n));
        }
        due("the TRAY stays", x.write(0, 39, 7), 7);
        NineOnGrass y = new NineOnGrass();
        refused("tray(0, 4, 1)", BAD, () -> y.tray(0, 4, 1));
        refused("tray(0, 0, 41)", BAD, () -> y.tray(0, 0, 41));
        refused("it is MISSING as before", ILL, () -> y.write(0, 0, 0));
    }

    @Says({"NoSuchElementException: no such TRAY (as below)", "TRAYS 0 to 3"})
    static void p42_no_such_tray() {
        NineOnGrass x = new NineOnGrass();
        for (int t : NO_TRAYS) {
            refused("tray(" + t + ", 0, 1)", NO_SUCH, () -> x.tray(t, 0, 1));
            refused("tray(" + t + ", 4, 41)", NO_SUCH, () -> x.tray(t, 4, 41));
            refused("write(" + t + ", 0, 0)", NO_SUCH, () -> x.write(t, 0, 0));
            refused("write(" + t + ", 40, 0)", NO_SUCH, () -> x.write(t, 40, 0));
            refused("pour(" + t + ")", NO_SUCH, () -> x.pour(t));
        }
        for (int t = 0; t <= 3; t++) {
            int tray = t;
            refused("write, MISSING", ILL, () -> x.write(tray, 0, 0));
            x.tray(t, 0, 1);
            due("write", x.write(t, 0, 10 + t), 10 + t);
            for (int other = t + 1; other <= 3; other++) {
                int next = other;
                refused("another is MISSING yet", ILL, () -> x.pour(next));
            }
        }
        for (int t = 0; t <= 3; t++) {
            x.pour(t);
            due("each has its own numbers", x.of(0, 0), 10 + t);
        }
    }

    @Says("A TRAY is a row of so many 0s.")
    static void p42_a_row_of_so_many_0s() {
        NineOnGrass x = new NineOnGrass();
        x.tray(1, 1, 9);
        for (int place = 0; place < 9; place++) {
            x.write(1, place, 100 + place);
        }
        x.tray(1, 2, 9);
        due("pour", x.pour(1), 9);
        stands("all 0 again", x, 0, 0, 0, 0, 0, 0, 0, 0, 0);
        row(x, 1, 1, 5, 6, 7);
        x.tray(1, 1, 1);
        due("one alone", x.pour(1), 1);
        x.tray(1, 1, 3);
        due("three again", x.pour(1), 3);
        stands("0 behind the first too", x, 0, 0, 0);
    }

    // ---- promise 43: write

    @Says({"rows of 0 to 40 numbers of 8 bits (sort 0), 16 (1), 32 (2), 64 (3)",
        "A number comes to a place of a TRAY, cut to its sort: as it is there."})
    static void p43_cut_to_its_sort() {
        NineOnGrass x = new NineOnGrass();
        for (int sort = 0; sort <= 2; sort++) {
            x.tray(sort, sort, 40);
            long half = 1L << (8 << sort) - 1;
            long[][] cases = {{half - 1, half - 1}, {half, -half}, {2 * half - 1, -1}, {2 * half, 0}, {2 * half + 1, 1}, {-1, -1},
                {-half, -half}, {-half - 1, half - 1}, {-2 * half, 0}, {0, 0}, {1, 1}, {Long.MAX_VALUE, -1}, {Long.MIN_VALUE, 0}};
            for (long[] c : cases) {
                due("sort " + sort + ", " + c[0], x.write(sort, 39, c[0]), c[1]);
            }
        }
        x.tray(3, 3, 2);
        for (long v : new long[] {0, 1, -1, Long.MAX_VALUE, Long.MIN_VALUE, 1L << 32, 1L << 31, 0x123456789abcdefL}) {
            due("sort 3, " + v, x.write(3, 1, v), v);
        }
    }

    @Says("as it is there")
    static void p43_as_it_is_there() {
        NineOnGrass x = new NineOnGrass();
        row(x, 0, 0, 255, 0, 256 + 7, 100);
        due("pour", x.pour(0), 4);
        stands("255 of 8 bits is NONE", x, NONE, 0, 7, 100);
        row(x, 0, 1, 65535, 65536 + 288, 144);
        due("pour", x.pour(0), 3);
        stands("65535 of 16 bits is NONE", x, NONE, 288, 144);
        row(x, 0, 2, (1L << 32) - 1, (1L << 32) + 288, 144);
        due("pour", x.pour(0), 3);
        stands("32 bits", x, NONE, 288, 144);
        row(x, 0, 3, -1, 1L << 32, 144);
        refused("64 bits aren't cut", BAD, () -> x.pour(0));
    }

    @Says("IllegalStateException: it is MISSING; IndexOutOfBoundsException: it has no such place.")
    static void p43_it_has_no_such_place() {
        NineOnGrass x = new NineOnGrass();
        for (int place : new int[] {0, -1, 40, LEAST, GREATEST}) {
            refused("MISSING, place " + place, ILL, () -> x.write(2, place, 0));
        }
        x.tray(2, 0, 3);
        for (int place : new int[] {-1, 3, 39, 40, LEAST, GREATEST}) {
            refused("three, place " + place, OUTSIDE, () -> x.write(2, place, 0));
        }
        for (int place = 0; place < 3; place++) {
            due("place " + place, x.write(2, place, 9 + place), 9 + place);
        }
        x.pour(2);
        stands("each in its place", x, 9, 10, 11);
        x.tray(2, 0, 0);
        for (int place : new int[] {0, -1, 1}) {
            refused("empty, place " + place, OUTSIDE, () -> x.write(2, place, 0));
        }
    }

    // ---- promise 44: pour

    @Says("The numbers of a TRAY are the STANDS of FIELDERS 0, 1, ..: how many.")
    static void p44_the_stands_of_fielders_0_1_how_many() {
        for (int many = 0; many <= 9; many++) {
            NineOnGrass x = new NineOnGrass();
            for (int f = 0; f < 9; f++) {
                x.stand(f, 200 + f);
            }
            x.tray(3, 1, many);
            for (int place = 0; place < many; place++) {
                x.write(3, place, place % 3 == 2 ? NONE : 10 + place);
            }
            due("pour", x.pour(3), many);
            for (int f = 0; f < 9; f++) {
                due("STAND of " + f + " by " + many, x.of(f, 0), f >= many ? 200 + f : f % 3 == 2 ? NONE : 10 + f);
            }
        }
    }

    @Says({"IllegalArgumentException: it has more than 9, or a number is neither a CELL nor NONE.",
        "IllegalStateException: it is MISSING"})
    static void p44_more_than_9_or_neither_a_cell_nor_none() {
        NineOnGrass x = new NineOnGrass();
        x.stand(0, 77);
        x.stand(8, 78);
        refused("MISSING", ILL, () -> x.pour(0));
        for (int many : new int[] {10, 11, 40}) {
            x.tray(0, 1, many);
            refused(many + " numbers", BAD, () -> x.pour(0));
        }
        x.tray(0, 3, 9);
        long[] none = {-2, 289, Integer.MIN_VALUE, Integer.MAX_VALUE, Long.MIN_VALUE, Long.MAX_VALUE, 1L << 32, (1L << 32) - 1, -289};
        for (long n : none) {
            for (int place : new int[] {0, 4, 8}) {
                x.write(0, place, n);
                refused(n + " at " + place, BAD, () -> x.pour(0));
                x.write(0, place, 5);
            }
        }
        due("STAND of 0", x.of(0, 0), 77);
        due("STAND of 8", x.of(8, 0), 78);
        int[] some = {-1, 0, 288};
        for (int n : some) {
            x.write(0, 8, n);
            due("pour, " + n, x.pour(0), 9);
            due("STAND of 8", x.of(8, 0), n);
        }
        due("nine", x.of(0, 0), 5);
    }

    // ---- promises 45 and 46: image, restore

    @Says({"An IMAGE is made. NoSuchElementException: no such one.", "IMAGES 0 to 2",
        "NoSuchElementException: no such one; IllegalStateException: none was made."})
    static void p45_images_0_to_2() {
        NineOnGrass x = new NineOnGrass();
        for (int i : NO_IMAGES) {
            refused("image(" + i + ")", NO_SUCH, () -> x.image(i));
            refused("restore(" + i + ")", NO_SUCH, () -> x.restore(i));
        }
        for (int i = 0; i <= 2; i++) {
            for (int none = i; none <= 2; none++) {
                int which = none;
                refused("restore(" + none + "), none was made", ILL, () -> x.restore(which));
            }
            x.stand(0, 10 + i);
            x.image(i);
        }
        for (int i = 2; i >= 0; i--) {
            x.restore(i);
            due("IMAGE " + i, x.of(0, 0), 10 + i);
        }
        x.image(2);
        x.stand(0, 5);
        x.restore(2);
        due("made anew", x.of(0, 0), 10);
    }

    @Says({"All is as in an IMAGE.", "IMAGES 0 to 2: all but the tape, the FAULT, the FRACTION and TRAYS, as it was"})
    static void p46_all_is_as_in_an_image() {
        NineOnGrass x = full();
        x.image(1);
        put(x, "near 0;edge 2;slow 9 at 3;ball 0 way 1 pace 1 air 1 for 1;ball 1 way 1 pace 1 air 1 for 1;"
                + "ball 2 way 1 pace 1 air 1 for 1;");
        x.book(2, 0, 9);
        for (int f = 0; f < 9; f++) {
            x.fielder(f, 1, 1, 1, 1);
            x.stand(f, f);
        }
        x.batter(0, 0);
        x.chase(false);
        x.way(1, 0);
        x.restore(1);
        isFull(x);
        // What comes behind restore() doesn't change the IMAGE.
        x.stand(0, 9);
        x.fielder(0, 9, 9, 9, 9);
        x.book(0, 1, 9);
        x.learn(0);
        x.way(0, 0);
        x.play(1, 9, 9);
        x.chase(false);
        x.restore(1);
        isFull(x);
    }

    private static NineOnGrass full() {
        NineOnGrass x = on("edge 7;run 20;worth 30;side 8;near 2;slow 4 at 100 101;ball 0 way 4 pace 5 air 2 for 9 way 8 pace 1 for 2;"
                + "ball 1 way 12 pace 1 for 3;ball 5 way 2 pace 3 air 4 for 5;", at(2, 0), NONE, at(0, 2));
        x.fielder(0, 9, 8, 7, 6);
        x.fielder(8, 2, 3, 4, 5);
        x.way(0, 0);
        x.stand(8, at(5, 0));
        x.way(3, 0);
        x.batter(1, 40);
        x.chase(true);
        x.book(0, 0, 5);
        x.book(0, 1, 6);
        x.book(5, 0, 7);
        x.play(1, 2, 1);
        return x;
    }

    private static void isFull(NineOnGrass x) {
        counts("THE FIELD", x, 0, 9, 7, 20, 30, 8, 2);
        counts("there", x, 6, 3);
        counts("BATTER, CHASE, WAYS", x, 8, 1, 40, 1, 9);
        counts("slow", x, 199, 0, 4, 4, 0);
        due("slow of the other", x.count(103), 0);
        int[] hits = {2, 1, 0, 0, 0, 1};
        for (int ball = 0; ball <= 5; ball++) {
            due("hits", x.hits(ball), hits[ball]);
        }
        int[] last5 = {2, 3, 4, 5, 4, 7};
        for (int what = 0; what < 6; what++) {
            due("hit(5, 0, " + what + ")", x.hit(5, 0, what), last5[what]);
        }
        int[][] hit = {{4, 5, 2, 9, 7, 5}, {8, 1, 0, 2, 7, 6}};
        for (int h = 0; h < 2; h++) {
            for (int what = 0; what < 6; what++) {
                due("hit(0, " + h + ", " + what + ")", x.hit(0, h, what), hit[h][what]);
            }
        }
        int[] first = {9, 8, 7, 6};
        int[] last = {2, 3, 4, 5};
        for (int what = 1; what <= 4; what++) {
            due("of(0 ..)", x.of(0, what), first[what - 1]);
            due("of(8 ..)", x.of(8, what), last[what - 1]);
        }
        // CHASE moved the one that is nearest to the western last step.
        stands("STANDS", x, at(2, 0), NONE, at(-7, 0), NONE, NONE, NONE, NONE, NONE, at(5, 0));
        int[] score = {4, 0, 1, 2};
        for (int what = 0; what < 4; what++) {
            due("score(" + what + ")", x.score(what), score[what]);
        }
        x.way(3, 1);
        stands("WAY 3", x, at(2, 0), NONE, at(0, 2), NONE, NONE, NONE, NONE, NONE, at(5, 0));
        x.way(0, 1);
        stands("WAY 0", x, at(2, 0), NONE, at(0, 2), NONE, NONE, NONE, NONE, NONE, NONE);
        refused("WAY 1", ILL, () -> x.way(1, 1));
        refused("WAY 2", ILL, () -> x.way(2, 1));
    }

    @Says("all but the tape, the FAULT, the FRACTION and TRAYS")
    static void p46_all_but_the_tape_the_fault_the_fraction_and_trays() {
        NineOnGrass x = on("run 60;ball 0 way 4 pace 1 for 1 way 12 pace 1 for 2;", at(1, 0));
        x.mean(0);
        row(x, 0, 1, 5);
        x.image(0);
        x.stand(0, NONE);
        x.mean(0);
        put(x, "edge 8; !");
        lay(x, "edge 3;");
        row(x, 0, 1, 7, 8);
        x.tray(1, 0, 2);
        x.restore(0);
        due("STAND", x.of(0, 0), at(1, 0));
        due("the FRACTION", x.upper(), 4);
        due("the FRACTION", x.lower(), 1);
        due("the FAULT", x.fault(0), 1);
        due("its place", x.fault(1), 8);
        due("the tape", x.count(7), 20);
        due("the TRAY", x.pour(0), 2);
        stands("the TRAY", x, 7, 8);
        due("the other TRAY", x.write(1, 1, 9), 9);
        due("field", x.field(7), 1);
        due("edge", x.count(1), 3);
        x.restore(0);
        due("edge", x.count(1), 8);
        due("the empty tape", x.count(7), 0);
        due("no FAULT", x.fault(0), 0);
    }

    @Says("IMAGES 0 to 2: all but the tape, the FAULT, the FRACTION and TRAYS, as it was (none at first).")
    static void p46_an_image_holds_no_images() {
        NineOnGrass x = new NineOnGrass();
        x.image(0);
        x.stand(0, 5);
        x.image(1);
        x.restore(0);
        due("IMAGE 0", x.of(0, 0), NONE);
        x.restore(1);
        due("IMAGE 1 is there all the same", x.of(0, 0), 5);
        put(x, "edge 3;");
        x.restore(1);
        due("an IMAGE outlives THE FIELD", x.of(0, 0), 5);
        due("without a text again", x.count(0), 0);
    }

    // ---- promise 47: count

    @Says({"0 LINES of THE FIELD, 1 edge, 2 run, 3 worth, 4 side, 5 near, 6 how many FIELDERS are there, 7 bytes on the tape, "
        + "8 BATTER's KIND, 9 SHARE, 10 1 if CHASE is on, 11 WAYS TO STAND kept (bits), 100 and a CELL: slow there; "
        + "NONE for others.", "CELLS 0 to 288"})
    static void p47_none_for_others() {
        NineOnGrass x = on("edge 7;run 6;worth 5;side 4;near 3;slow 11 at 0 288;slow 12 at 1 287;", 0, NONE, 0);
        x.batter(3, 77);
        x.chase(true);
        x.way(1, 0);
        x.way(3, 0);
        x.feed(0, 0, 0, 0, 0);
        counts("all", x, -2, NONE, NONE, 7, 7, 6, 5, 4, 3, 2, 20, 3, 77, 1, 10, NONE, NONE);
        counts("about 100", x, 98, NONE, NONE, 11, 12, 0);
        counts("about 388", x, 386, 0, 12, 11, NONE, NONE);
        for (int what : new int[] {LEAST, GREATEST, LEAST + 100, 13, 50, 500}) {
            due("count(" + what + ")", x.count(what), NONE);
        }
    }

    @Says("6 how many FIELDERS are there")
    static void p47_how_many_fielders_are_there() {
        NineOnGrass x = new NineOnGrass();
        for (int f = 0; f <= 8; f++) {
            due("count(6)", x.count(6), f);
            x.stand(f, 0);
        }
        due("count(6)", x.count(6), 9);
        x.stand(4, NONE);
        due("count(6)", x.count(6), 8);
    }
}
