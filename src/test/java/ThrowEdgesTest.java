import java.util.function.Consumer;

/** Which of several throws comes, and that a call that throws changes nothing: all promises that name a throw. */
public final class ThrowEdgesTest extends Due {
    private static final String ORDER = "Of several throws of a call that one comes that is told first.";
    private static final String NOTHING = "A call that throws changes nothing.";

    public static void main(String[] args) {
        run(ThrowEdgesTest.class);
    }

    /** TRAY 0 is 145, 144; 1 has ten numbers; 2 has one that is no CELL; 3 is MISSING. WAYS 0 and 2, IMAGE 1 are there. */
    private static NineOnGrass rich() {
        NineOnGrass x = on("edge 7;slow 3 at 147;ball 0 way 4 pace 2 for 3 way 0 pace 3 air 3 for 1;ball 5 way 12 pace 1 for 5;",
                at(4, 0), NONE, at(0, -3));
        x.fielder(2, 2, 90, 5, 3);
        x.way(0, 0);
        x.image(1);
        x.stand(3, at(0, 4));
        x.way(2, 0);
        x.batter(1, 30);
        x.chase(true);
        x.book(0, 1, 16);
        x.play(5, 2, 9);
        row(x, 0, 1, at(1, 0), at(0, 0));
        row(x, 1, 1, 1, 2, 3, 4, 5, 6, 7, 8, 9, 10);
        row(x, 2, 3, 289, 3);
        put(x, "edge 9;");
        x.mean(0);
        lay(x, "near 0;edge 5;");
        return x;
    }

    /** All that can be seen of an object; what hides it (WAYS, TRAYS, IMAGES, the tape) is brought out in turn. */
    private static String all(NineOnGrass x) {
        StringBuilder b = new StringBuilder();
        b.append("FRACTION ").append(x.upper()).append('/').append(x.lower());
        b.append(" FAULT ").append(x.fault(0)).append(' ').append(x.fault(1));
        seen(x, b);
        for (int f = 0; f < 9; f++) {
            for (int what = 1; what <= 4; what++) {
                b.append(' ').append(x.of(f, what));
            }
        }
        for (int way = 0; way < 4; way++) {
            int i = way;
            b.append("\n  WAY ").append(way).append(' ').append(thrownBy(() -> x.way(i, 1)));
            stands(x, b);
        }
        for (int tray = 0; tray < 4; tray++) {
            int t = tray;
            b.append("\n  TRAY ").append(tray).append(' ').append(thrownBy(() -> x.pour(t)));
            stands(x, b);
            b.append(' ').append(thrownBy(() -> x.write(t, 9, 0))).append(' ').append(thrownBy(() -> x.write(t, 2, 0)));
            b.append(' ').append(thrownBy(() -> b.append(x.write(t, 0, 1L << 40))));
        }
        b.append("\n  tape ").append(x.field(x.count(7))).append(' ').append(x.fault(0));
        seen(x, b);
        for (int image = 0; image < 3; image++) {
            int i = image;
            b.append("\n  IMAGE ").append(image).append(' ').append(thrownBy(() -> x.restore(i)));
            seen(x, b);
        }
        return b.toString();
    }

    private static void seen(NineOnGrass x, StringBuilder b) {
        b.append("\n  ");
        for (int what = 0; what < 12; what++) {
            b.append(' ').append(x.count(what));
        }
        b.append(" score");
        for (int what = 0; what < 4; what++) {
            b.append(' ').append(x.score(what));
        }
        for (int ball = 0; ball <= 5; ball += 5) {
            b.append(" hits");
            for (int hit = 0; hit < x.hits(ball); hit++) {
                b.append(' ').append(x.hit(ball, hit, 3)).append(' ').append(x.hit(ball, hit, 5));
            }
        }
        stands(x, b);
    }

    private static void stands(NineOnGrass x, StringBuilder b) {
        b.append(" stands");
        for (int f = 0; f < 9; f++) {
            b.append(' ').append(x.of(f, 0));
        }
    }

    private static void refusedLeaves(String call, Class<?> why, Consumer<NineOnGrass> it) {
        NineOnGrass x = rich();
        refused(call, why, () -> it.accept(x));
        due("all behind " + call, all(x), all(rich()));
    }

    @Says(NOTHING)
    static void p03_field() {
        refusedLeaves("field(-1)", BAD, x -> x.field(-1));
        refusedLeaves("field(21)", BAD, x -> x.field(21));
    }

    @Says(NOTHING)
    static void p05_hits() {
        refusedLeaves("hits(6)", NO_SUCH, x -> x.hits(6));
        refusedLeaves("hits(-1)", NO_SUCH, x -> x.hits(-1));
    }

    @Says({ORDER, NOTHING})
    static void p06_hit() {
        refusedLeaves("no such BALL, no such what", NO_SUCH, x -> x.hit(6, 0, 6));
        refusedLeaves("no such HIT, no such what", NO_SUCH, x -> x.hit(0, 2, 6));
        refusedLeaves("no HITS, no such what", NO_SUCH, x -> x.hit(1, 0, -1));
        refusedLeaves("no such what", BAD, x -> x.hit(0, 1, 6));
    }

    @Says({ORDER, NOTHING})
    static void p07_tick() {
        refusedLeaves("no such BALL, no such step", NO_SUCH, x -> x.tick(-1, 0, 0));
        refusedLeaves("no such HIT, no such step", NO_SUCH, x -> x.tick(0, 2, 9));
        refusedLeaves("no such step", BAD, x -> x.tick(0, 0, 8));
    }

    @Says({ORDER, NOTHING})
    static void p08_fielder() {
        refusedLeaves("no such FIELDER, all numbers", NO_SUCH, x -> x.fielder(9, 0, 101, 51, 10));
        refusedLeaves("PACE", BAD, x -> x.fielder(2, 0, 1, 1, 1));
        refusedLeaves("HANDS", BAD, x -> x.fielder(2, 1, 101, 1, 1));
        refusedLeaves("PER", BAD, x -> x.fielder(2, 1, 1, 51, 1));
        refusedLeaves("ARM", BAD, x -> x.fielder(2, 1, 1, 1, 10));
    }

    @Says({ORDER, NOTHING})
    static void p09_stand() {
        refusedLeaves("no such FIELDER, no such CELL", NO_SUCH, x -> x.stand(-1, 289));
        refusedLeaves("no such CELL", BAD, x -> x.stand(0, 289));
        refusedLeaves("no such CELL", BAD, x -> x.stand(0, -2));
    }

    @Says({ORDER, NOTHING})
    static void p10_of() {
        refusedLeaves("no such FIELDER, no such what", NO_SUCH, x -> x.of(9, 5));
        refusedLeaves("no such what", BAD, x -> x.of(8, 5));
    }

    @Says(NOTHING)
    static void p12_batter() {
        refusedLeaves("KIND", BAD, x -> x.batter(5, 7));
        refusedLeaves("SHARE", BAD, x -> x.batter(4, 101));
    }

    @Says(NOTHING)
    static void p13_to_19_what_comes_of_a_hit() {
        refusedLeaves("catcher", NO_SUCH, x -> x.catcher(0, 2));
        refusedLeaves("caught", NO_SUCH, x -> x.caught(6, 0));
        refusedLeaves("stopper", NO_SUCH, x -> x.stopper(0, -1));
        refusedLeaves("stops", NO_SUCH, x -> x.stops(1, 0));
        refusedLeaves("runs", NO_SUCH, x -> x.runs(5, 1));
        refusedLeaves("cost", NO_SUCH, x -> x.cost(-1, 0));
        refusedLeaves("mean", NO_SUCH, x -> x.mean(6));
    }

    @Says({ORDER, NOTHING})
    static void p22_one() {
        refusedLeaves("no such FIELDER, no such BALL", NO_SUCH, x -> x.one(9, 6));
        refusedLeaves("it isn't there, no such BALL", NO_SUCH, x -> x.one(1, 6));
        refusedLeaves("it isn't there", ILL, x -> x.one(1, 0));
    }

    @Says({ORDER, NOTHING})
    static void p23_settle() {
        refusedLeaves("no such BALL, the number", NO_SUCH, x -> x.settle(6, 51));
        refusedLeaves("the number", BAD, x -> x.settle(0, 51));
        refusedLeaves("the number", BAD, x -> x.settle(0, -1));
    }

    @Says(NOTHING)
    static void p24_25_bound_gap() {
        refusedLeaves("bound", NO_SUCH, x -> x.bound(6));
        refusedLeaves("gap", NO_SUCH, x -> x.gap(-1));
    }

    @Says({ORDER, NOTHING})
    static void p26_way() {
        refusedLeaves("no such WAY, another what", NO_SUCH, x -> x.way(4, 2));
        refusedLeaves("another what, it isn't kept", BAD, x -> x.way(1, 2));
        refusedLeaves("another what", BAD, x -> x.way(0, -1));
        refusedLeaves("it isn't kept", ILL, x -> x.way(1, 1));
    }

    @Says({ORDER, NOTHING})
    static void p27_rest() {
        refusedLeaves("no such WAY, another what", NO_SUCH, x -> x.rest(4, 1, 0, 2));
        refusedLeaves("not kept, no such WAY", NO_SUCH, x -> x.rest(1, -1, 0, 0));
        refusedLeaves("not kept, no such BALL", NO_SUCH, x -> x.rest(1, 3, 6, 0));
        refusedLeaves("another what, not kept", BAD, x -> x.rest(1, 3, 0, 2));
        refusedLeaves("not kept", ILL, x -> x.rest(0, 1, 0, 0));
        refusedLeaves("not kept", ILL, x -> x.rest(1, 0, 0, 1));
    }

    @Says({ORDER, NOTHING})
    static void p28_29_walk_tells() {
        refusedLeaves("walk: not kept, no such WAY", NO_SUCH, x -> x.walk(1, 4));
        refusedLeaves("walk: no such WAY, not kept", NO_SUCH, x -> x.walk(-1, 1));
        refusedLeaves("walk: not kept", ILL, x -> x.walk(0, 1));
        refusedLeaves("tells: not kept, no such WAY", NO_SUCH, x -> x.tells(3, 4));
        refusedLeaves("tells: no such WAY, not kept", NO_SUCH, x -> x.tells(-1, 3));
        refusedLeaves("tells: not kept", ILL, x -> x.tells(3, 2));
    }

    @Says({ORDER, NOTHING, "NoSuchElementException: the BALL, no such TRAY (as below); IllegalStateException: it is MISSING; "
        + "IllegalArgumentException: n, i (0 to n less 1), a number that is no CELL; IndexOutOfBoundsException: it has fewer than n."})
    static void p31_match() {
        refusedLeaves("the BALL, and all others", NO_SUCH, x -> x.match(6, 3, 0, 0));
        refusedLeaves("no such TRAY, n", NO_SUCH, x -> x.match(0, 4, 0, 0));
        refusedLeaves("MISSING, n", ILL, x -> x.match(0, 3, 0, 0));
        refusedLeaves("MISSING, i", ILL, x -> x.match(0, 3, 1, 1));
        refusedLeaves("n", BAD, x -> x.match(0, 0, 7, 0));
        refusedLeaves("i, and fewer than n", BAD, x -> x.match(0, 0, 3, 3));
        refusedLeaves("a number that is no CELL, and fewer than n", BAD, x -> x.match(0, 2, 3, 0));
        refusedLeaves("a number that is no CELL, no MEAN", BAD, x -> x.match(1, 2, 2, 0));
        refusedLeaves("fewer than n", OUTSIDE, x -> x.match(0, 0, 3, 2));
        refusedLeaves("fewer than n, no MEAN", OUTSIDE, x -> x.match(1, 0, 3, 2));
    }

    @Says({ORDER, NOTHING})
    static void p32_33_worth_brave() {
        refusedLeaves("worth: it isn't there, no such BALL", NO_SUCH, x -> x.worth(1, 6));
        refusedLeaves("worth: no such FIELDER", NO_SUCH, x -> x.worth(9, 0));
        refusedLeaves("worth: it isn't there", ILL, x -> x.worth(1, 0));
        refusedLeaves("brave: no such BALL, it isn't there, no such CELL", NO_SUCH, x -> x.brave(1, 6, 289));
        refusedLeaves("brave: it isn't there, no such CELL", ILL, x -> x.brave(1, 0, 289));
        refusedLeaves("brave: no such CELL", BAD, x -> x.brave(0, 0, 289));
        refusedLeaves("brave: no such CELL", BAD, x -> x.brave(0, 0, NONE));
    }

    @Says({ORDER, NOTHING})
    static void p34_both() {
        refusedLeaves("no such BALL, the hundredths", NO_SUCH, x -> x.both(6, 101));
        refusedLeaves("the hundredths", BAD, x -> x.both(0, 101));
        refusedLeaves("the hundredths", BAD, x -> x.both(0, -1));
    }

    @Says({ORDER, NOTHING})
    static void p35_to_38_book_learn_ends_enough() {
        refusedLeaves("book: no such HIT, the number", NO_SUCH, x -> x.book(0, 2, 10000));
        refusedLeaves("book: the number", BAD, x -> x.book(0, 1, 10000));
        refusedLeaves("book: the number", BAD, x -> x.book(0, 1, -1));
        refusedLeaves("learn", NO_SUCH, x -> x.learn(6));
        refusedLeaves("ends", NO_SUCH, x -> x.ends(0, 2, true));
        refusedLeaves("enough: no such HIT, w", NO_SUCH, x -> x.enough(0, 2, 0));
        refusedLeaves("enough: w", BAD, x -> x.enough(0, 1, 101));
        refusedLeaves("enough: w, nothing was seen", BAD, x -> x.enough(5, 0, 0));
    }

    @Says({ORDER, NOTHING})
    static void p40_play() {
        refusedLeaves("no such BALL, n", NO_SUCH, x -> x.play(6, 61, 1));
        refusedLeaves("n", BAD, x -> x.play(0, 61, 1));
        refusedLeaves("n", BAD, x -> x.play(5, 0, 1));
        refusedLeaves("n, no HITS", BAD, x -> x.play(1, 61, 1));
    }

    @Says({ORDER, NOTHING})
    static void p42_to_44_tray_write_pour() {
        refusedLeaves("tray: no such TRAY, no such sort", NO_SUCH, x -> x.tray(4, 4, 41));
        refusedLeaves("tray: no such sort", BAD, x -> x.tray(0, 4, 1));
        refusedLeaves("tray: not so many", BAD, x -> x.tray(0, 1, 41));
        refusedLeaves("tray: not so many", BAD, x -> x.tray(3, 1, -1));
        refusedLeaves("write: no such TRAY, no such place", NO_SUCH, x -> x.write(4, 40, 1));
        refusedLeaves("write: MISSING, no such place", ILL, x -> x.write(3, 40, 1));
        refusedLeaves("write: no such place", OUTSIDE, x -> x.write(0, 2, 1));
        refusedLeaves("write: no such place", OUTSIDE, x -> x.write(0, -1, 1));
        refusedLeaves("pour: no such TRAY", NO_SUCH, x -> x.pour(-1));
        refusedLeaves("pour: MISSING", ILL, x -> x.pour(3));
        refusedLeaves("pour: more than 9", BAD, x -> x.pour(1));
        refusedLeaves("pour: a number that is none", BAD, x -> x.pour(2));
    }

    @Says({ORDER, NOTHING})
    static void p45_46_image_restore() {
        refusedLeaves("image", NO_SUCH, x -> x.image(3));
        refusedLeaves("restore: no such one", NO_SUCH, x -> x.restore(-1));
        refusedLeaves("restore: none was made", ILL, x -> x.restore(0));
        refusedLeaves("restore: none was made", ILL, x -> x.restore(2));
    }
}
