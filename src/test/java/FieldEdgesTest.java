import java.util.function.ToIntFunction;

/** The edges of a new object, the tape, THE FIELD's TEXT, BALLS and HITS: promises 1 to 7. */
public final class FieldEdgesTest extends Due {
    private static final String HIT = " way 1 pace 1 for 1";
    private static final String[] LINE_WORDS = {"edge", "run", "worth", "side", "near", "slow", "ball"};

    public static void main(String[] args) {
        run(FieldEdgesTest.class);
    }

    // ---- promise 1: a new object

    @Says({"`NineOnGrass()`: THE FIELD without a text",
        "(without one: edge 8, run 9, worth 20, side 9, near 1, no BALLS)"})
    static void p01_the_field_without_a_text() {
        NineOnGrass x = new NineOnGrass();
        counts("new", x, 0, 0, 8, 9, 20, 9, 1);
        for (int ball = 0; ball < 6; ball++) {
            due("hits(" + ball + ")", x.hits(ball), 0);
        }
        for (int cell = 0; cell < 289; cell++) {
            due("slow of " + cell, x.count(100 + cell), 0);
        }
    }

    @Says({"nobody is there; a plain BATTER", "a STAND, a CELL, or NONE (at first: not there)"})
    static void p01_nobody_is_there_a_plain_batter() {
        NineOnGrass x = new NineOnGrass();
        due("count(6)", x.count(6), 0);
        stands("new", x, NONE, NONE, NONE, NONE, NONE, NONE, NONE, NONE, NONE);
        due("judge()", x.judge(), NONE);
        counts("BATTER", x, 8, 0, 0);
    }

    @Says({"TRAYS are MISSING; an empty tape; no FRACTION", "TRAYS 0 to 3 are MISSING at first"})
    static void p01_trays_are_missing_an_empty_tape_no_fraction() {
        NineOnGrass x = new NineOnGrass();
        for (int t = 0; t < 4; t++) {
            int tray = t;
            refused("write(" + t + ", 0, 0)", ILL, () -> x.write(tray, 0, 0));
            refused("pour(" + t + ")", ILL, () -> x.pour(tray));
            refused("match(0, " + t + ", 1, 0)", ILL, () -> x.match(0, tray, 1, 0));
        }
        due("count(7)", x.count(7), 0);
        refused("field(1)", BAD, () -> x.field(1));
        due("field(0)", x.field(0), 0);
        due("upper()", x.upper(), 0);
        due("lower()", x.lower(), 0);
    }

    @Says({"all STANDS, as kept (none at first)", "as it was (none at first)", "(0 to 9999 each; 0 at first)"})
    static void p01_no_ways_no_images_no_book_at_first() {
        NineOnGrass x = new NineOnGrass();
        due("count(11)", x.count(11), 0);
        for (int i = 0; i < 4; i++) {
            int way = i;
            refused("way(" + i + ", 1)", ILL, () -> x.way(way, 1));
            due("score(" + i + ")", x.score(i), 0);
        }
        for (int i = 0; i < 3; i++) {
            int image = i;
            refused("restore(" + i + ")", ILL, () -> x.restore(image));
        }
        due("chase(false)", x.chase(false), false);
        due("fault(0)", x.fault(0), 0);
        due("fault(1)", x.fault(1), NONE);
        put(x, "ball 5" + HIT + ";");
        due("seen", x.hit(5, 0, 5), 0);
    }

    @Says("The constants: `NONE = -1`: There is none.")
    static void p01_none_is_less_1() {
        due("NONE", NineOnGrass.NONE, -1);
    }

    @Says("An object is used for at most 512 calls after it has been made")
    static void p01_the_512th_call_answers_as_the_first() {
        NineOnGrass x = new NineOnGrass();
        for (int call = 1; call <= 510; call++) {
            due("chase, call " + call, x.chase(call % 2 == 1), call % 2 == 0);
        }
        due("feed, call 511", x.feed(0, 0, 0, 0, 0), 20);
        due("count(7), call 512", x.count(7), 20);
    }

    @Says("`NineOnGrass()`:")
    static void p01_objects_share_nothing() {
        NineOnGrass x = on("edge 3; slow 4 at 9; ball 0" + HIT + ";", 144);
        NineOnGrass y = new NineOnGrass();
        x.tray(0, 0, 1);
        x.image(0);
        x.mean(0);
        x.fielder(0, 9, 9, 9, 9);
        counts("the other", y, 0, 0, 8, 9, 20, 9, 1, 0, 0);
        due("slow of the other", y.count(109), 0);
        due("FRACTION of the other", y.lower(), 0);
        due("PACE in the other", y.of(0, 1), 3);
        refused("TRAY of the other", ILL, () -> y.pour(0));
        refused("IMAGE of the other", ILL, () -> y.restore(0));
    }

    // ---- promise 2: feed

    @Says("Twenty bytes come behind those on the tape, the highest of each int first")
    static void p02_the_highest_of_each_int_first() {
        // '?' is no TOKEN: where the FAULT is tells where the byte has come to, also behind other bytes.
        for (int place = 0; place < 20; place++) {
            int[] fours = {0x20202020, 0x20202020, 0x20202020, 0x20202020, 0x20202020};
            fours[place / 4] ^= 0x1f << 24 - 8 * (place % 4);
            NineOnGrass x = new NineOnGrass();
            due("feed", x.feed(0x6e656172, 0x20313b20, 0x20202020, 0x20202020, 0x20202020), 20);
            due("feed", x.feed(fours[0], fours[1], fours[2], fours[3], fours[4]), 40);
            due("field", x.field(40), -11);
            due("place", x.fault(1), 20 + place);
        }
    }

    @Says({"how many it has; NONE, and nothing changes, if there would be more than 800",
        "THE FIELD is a TEXT of at most 800 bytes"})
    static void p02_none_if_there_would_be_more_than_800() {
        NineOnGrass x = new NineOnGrass();
        for (int size = 20; size <= 780; size += 20) {
            due("feed", x.feed(0x20202020, 0x20202020, 0x20202020, 0x20202020, 0x20202020), size);
        }
        due("feed: 800 are no more than 800", x.feed(0x20202020, 0x20202020, 0x20202020, 0x20656467, 0x6520353b), 800);
        for (int again = 0; again < 2; again++) {
            due("feed: 820 are more", x.feed(0x21212121, 0x21212121, 0x21212121, 0x21212121, 0x21212121), NONE);
            due("count(7)", x.count(7), 800);
        }
        due("field: nothing changed", x.field(800), 1);
        due("edge", x.count(1), 5);
        due("feed, on the empty tape", x.feed(0, 0, 0, 0, 0), 20);
    }

    // ---- promise 3: field

    @Says("IllegalArgumentException: n is below 0 or above what it has.")
    static void p03_n_below_0_or_above_what_it_has() {
        NineOnGrass x = new NineOnGrass();
        for (int n : new int[] {-1, 1, LEAST, GREATEST}) {
            refused("field(" + n + ") of an empty tape", BAD, () -> x.field(n));
        }
        due("field(0) of an empty tape", x.field(0), 0);
        lay(x, "edge 5;");
        for (int n : new int[] {-1, 21, LEAST, GREATEST}) {
            refused("field(" + n + ") of 20", BAD, () -> x.field(n));
            due("count(7)", x.count(7), 20);
        }
        due("field(20) of 20", x.field(20), 1);
        lay(x, "edge 6;");
        due("field(19) of 20", x.field(19), 1);
        due("edge", x.count(1), 6);
    }

    @Says("The first n bytes of the tape (which is empty then) are THE FIELD")
    static void p03_the_first_n_bytes_of_the_tape_which_is_empty_then() {
        NineOnGrass x = new NineOnGrass();
        lay(x, "edge 5;edge 9;!!!!!!!!!");
        due("field(7)", x.field(7), 1);
        due("edge", x.count(1), 5);
        due("count(7)", x.count(7), 0);
        refused("field(1), on the empty tape", BAD, () -> x.field(1));
        lay(x, "edge 6;");
        due("field(0)", x.field(0), 0);
        due("edge, of no text", x.count(1), 8);
        due("count(7)", x.count(7), 0);
        lay(x, "run 1234");
        due("field(7): a TOKEN isn't looked at behind n", x.field(7), -13);
        lay(x, "run 123");
        due("field(6)", x.field(6), -12);
        due("place", x.fault(1), 6);
        due("the tape is empty behind a FAULT too", x.count(7), 0);
    }

    @Says("nobody is there then, WAYS TO STAND, THE BOOK and SCORE are empty: how many LINES")
    static void p03_nobody_is_there_then_ways_book_and_score_are_empty() {
        NineOnGrass x = used();
        due("field", put(x, "ball 0" + HIT + ";"), 1);
        due("count(6)", x.count(6), 0);
        stands("then", x, NONE, NONE, NONE, NONE, NONE, NONE, NONE, NONE, NONE);
        due("count(11)", x.count(11), 0);
        refused("way(0, 1)", ILL, () -> x.way(0, 1));
        due("seen", x.hit(0, 0, 5), 0);
        for (int what = 0; what < 4; what++) {
            due("score(" + what + ")", x.score(what), 0);
        }
        due("PACE stays", x.of(0, 1), 9);
        counts("BATTER and CHASE stay", x, 8, 1, 30, 1);
        due("the FRACTION stays", x.lower(), 1);
        due("the TRAY stays", x.pour(2), 2);
        x.restore(1);
        due("the IMAGE stays", x.of(0, 0), 144);
    }

    @Says("-10 less the FAULT (all else stays)")
    static void p03_less_10_less_the_fault_all_else_stays() {
        String thirty = "near 1;".repeat(30);
        String[] texts = {"edge 3;!", "edge 3; run;", "edge 3; run 0;", thirty + "edge 3;", "ball 1" + HIT.repeat(9)};
        for (int kind = 1; kind <= 5; kind++) {
            NineOnGrass x = used();
            due("field: " + texts[kind - 1], put(x, texts[kind - 1]), -10 - kind);
            counts("stays", x, 0, 1, 8, 9, 20, 9, 1, 1, 0, 1, 30, 1, 1);
            due("STAND", x.of(0, 0), 144);
            due("seen", x.hit(0, 0, 5), 7);
            due("hits(1)", x.hits(1), 0);
            due("PLAYED", x.score(3), 2);
            due("the FRACTION", x.lower(), 1);
        }
    }

    private static NineOnGrass used() {
        NineOnGrass x = on("ball 0 way 4 pace 1 for 1;", 144);
        x.fielder(0, 9, 80, 10, 1);
        x.way(0, 0);
        x.book(0, 0, 7);
        x.play(0, 2, 1);
        x.mean(0);
        x.batter(1, 30);
        x.chase(true);
        row(x, 2, 1, 144, 145);
        x.image(1);
        return x;
    }

    @Says("{ LINE ; } LINE: edge N | run N | worth N | side N | near N | slow N at N { N } | ball N HIT { HIT }.")
    static void p03_lines_as_many_as_come() {
        NineOnGrass x = new NineOnGrass();
        due("none", put(x, ""), 0);
        due("blanks alone", put(x, " \n  \n"), 0);
        for (String word : LINE_WORDS) {
            String rest = word.equals("slow") ? " 2 at 3" : word.equals("ball") ? " 2" + HIT : " 3";
            due(word, put(x, word + rest + ";"), 1);
            due(word + " twice", put(x, word + rest + ";" + word + rest + " ;"), 2);
            fault(word + rest, 2, word.length() + rest.length());
            fault(word + rest + ";;", 2, word.length() + rest.length() + 1);
        }
    }

    @Says("edge 2 to 8, run 1 to 60, worth 0 to 99, side 0 to 9, near 0 to 8; later ones strike.")
    static void p03_edge_run_worth_side_near_least_and_greatest() {
        bounds("edge ", 2, 8, ";", x -> x.count(1));
        bounds("run ", 1, 60, ";", x -> x.count(2));
        bounds("worth ", 0, 99, ";", x -> x.count(3));
        bounds("side ", 0, 9, ";", x -> x.count(4));
        bounds("near ", 0, 8, ";", x -> x.count(5));
    }

    /** N at its least and its greatest is read; one less and one more is FAULT 3, where N stands. */
    private static void bounds(String before, int least, int most, String behind, ToIntFunction<NineOnGrass> read) {
        for (int n : new int[] {least, least + 1, most - 1, most}) {
            due(before + n + behind, read.applyAsInt(on(before + n + behind)), n);
        }
        if (least > 0) {
            fault(before + (least - 1) + behind, 3, before.length());
        }
        fault(before + (most + 1) + behind, 3, before.length());
        fault(before + 999 + behind, 3, before.length());
    }

    @Says("later ones strike. slow: 0 to 20 of CELLS 0 to 288 (later ones strike)")
    static void p03_later_ones_strike() {
        NineOnGrass x = on("edge 8;run 60;worth 99;side 9;near 8;edge 2;run 1;worth 0;side 0;near 0;");
        counts("the later", x, 0, 10, 2, 1, 0, 0, 0);
        x = on("edge 2;run 1;worth 0;side 0;near 0;edge 8;run 60;worth 99;side 9;near 8;");
        counts("the later", x, 0, 10, 8, 60, 99, 9, 8);
        x = on("slow 20 at 7 8 9; slow 0 at 8; slow 3 at 9 9 10; slow 1 at 10;");
        counts("the later", x, 107, 20, 0, 3, 1, 0);
        x = on("edge 3;run 3;worth 3;side 3;near 3;slow 3 at 3;ball 0" + HIT + ";");
        due("a FAULT", put(x, "slow 4 at 4;slow 5 at 5;ball 1" + HIT + ";edge"), -12);
        counts("not of a text with a FAULT", x, 103, 3, 0, 0);
        due("another text", put(x, "ball 2" + HIT + ";"), 1);
        counts("not of another text", x, 0, 1, 8, 9, 20, 9, 1);
        counts("not of another text", x, 103, 0, 0, 0);
        int[] hits = {0, 0, 1};
        for (int ball = 0; ball < 3; ball++) {
            due("not of another text", x.hits(ball), hits[ball]);
        }
    }

    @Says({"slow: 0 to 20 of CELLS 0 to 288", "CELLS 0 to 288"})
    static void p03_slow_0_to_20_of_cells_0_to_288() {
        bounds("slow ", 0, 20, " at 5;", x -> x.count(105));
        NineOnGrass x = on("slow 7 at 0 1 287 288;");
        counts("slow", x, 100, 7, 7, 0);
        counts("slow", x, 386, 0, 7, 7, NONE);
        fault("slow 7 at 289;", 3, 10);
        fault("slow 7 at 288 289;", 3, 14);
        fault("slow 7 at 0 288 999;", 3, 16);
    }

    @Says("{ N }")
    static void p03_slow_at_as_many_cells_as_there_is_room_for() {
        NineOnGrass x = on("slow 1 at" + " 5".repeat(394) + " 9;");
        counts("395 CELLS", x, 105, 1, 0, 0, 0, 1);
        fault("slow 1 at;", 2, 9);
        fault("slow 1;", 2, 6);
        due("one CELL is enough", put(x, "slow 2 at 5;"), 1);
    }

    @Says("BALLS 0 to 5; their HITS are numbered as they come (of several LINES for one BALL on and on), at most 8 each")
    static void p03_balls_0_to_5() {
        for (int ball = 0; ball <= 5; ball++) {
            NineOnGrass x = on("ball " + ball + HIT + ";");
            for (int other = 0; other <= 5; other++) {
                due("hits(" + other + ")", x.hits(other), other == ball ? 1 : 0);
            }
        }
        fault("ball 6" + HIT + ";", 3, 5);
        fault("ball 999" + HIT + ";", 3, 5);
    }

    @Says("their HITS are numbered as they come (of several LINES for one BALL on and on), at most 8 each")
    static void p03_hits_are_numbered_on_and_on_at_most_8_each() {
        StringBuilder text = new StringBuilder();
        for (int ball = 0; ball < 6; ball++) {
            text.append("ball").append(ball);
            for (int hit = 0; hit < 8; hit++) {
                text.append("way").append(hit).append("pace1for").append(1 + 8 * ball + hit);
            }
            text.append(';');
        }
        NineOnGrass x = on(text.toString());
        for (int ball = 0; ball < 6; ball++) {
            due("hits(" + ball + ")", x.hits(ball), 8);
            for (int hit = 0; hit < 8; hit++) {
                due("for", x.hit(ball, hit, 3), 1 + 8 * ball + hit);
                due("way", x.hit(ball, hit, 0), hit);
            }
        }
        x = on("ball 3 way 1 pace 1 for 10 way 1 pace 1 for 11;ball 4 way 1 pace 1 for 50;near 1;"
                + "ball 3 way 1 pace 1 for 12;ball 3 way 1 pace 1 for 13 way 1 pace 1 for 14;");
        due("hits(3)", x.hits(3), 5);
        for (int hit = 0; hit < 5; hit++) {
            due("for of " + hit, x.hit(3, hit, 3), 10 + hit);
        }
        due("for of the other BALL", x.hit(4, 0, 3), 50);
    }

    @Says("way 0 to 15, pace 1 to 9, air 1 to 8 (0 without), for 1 to 99")
    static void p03_way_pace_air_for_least_and_greatest() {
        bounds("ball 2 way ", 0, 15, " pace 1 for 1;", x -> x.hit(2, 0, 0));
        bounds("ball 2 way 1 pace ", 1, 9, " for 1;", x -> x.hit(2, 0, 1));
        bounds("ball 2 way 1 pace 1 air ", 1, 8, " for 1;", x -> x.hit(2, 0, 2));
        bounds("ball 2 way 1 pace 1 for ", 1, 99, ";", x -> x.hit(2, 0, 3));
        NineOnGrass x = on("ball 2 way 1 pace 1 air 5 for 1;");
        put(x, "ball 2 way 1 pace 1 for 1;");
        due("0 without", x.hit(2, 0, 2), 0);
    }

    @Says({"At most 30 LINES.", "4 the first TOKEN of a 31st LINE"})
    static void p03_at_most_30_lines() {
        String line = "near 1;";
        due("29", put(new NineOnGrass(), line.repeat(29)), 29);
        due("30", put(new NineOnGrass(), line.repeat(30)), 30);
        due("30 and blanks", put(new NineOnGrass(), line.repeat(30) + "\n  "), 30);
        for (String word : LINE_WORDS) {
            fault(line.repeat(30) + " " + word + " 999 ! ;", 4, 211);
            fault(line.repeat(30) + word, 4, 210);
            fault(line.repeat(30) + word + " 3;" + line, 4, 210);
        }
        fault(line.repeat(29) + "near 9;" + line, 3, 208);
        fault(line.repeat(40), 4, 210);
    }

    // ---- promise 3: TOKENS

    @Says("TOKENS, as long as they go")
    static void p03_tokens_as_long_as_they_go() {
        fault("edgerun 8;", 2, 0);
        fault("edge 8run;", 2, 6);
        due("none between", put(new NineOnGrass(), "edge8;run9;slow3at5;ball0way1pace1air1for1;"), 4);
        fault("edge 55;", 3, 5);
        counts("three CELLS", on("slow 1 at 12 3 28;"), 103, 1);
        counts("two CELLS", on("slow 1 at 12 32;"), 103, 0);
        fault("slow 1 at 12 3289;", 1, 13);
    }

    @Says("between them blanks (10, 32)")
    static void p03_blanks_are_10_and_32_alone() {
        for (int sign = 0; sign < 256; sign++) {
            String text = "edge" + (char) sign + "8;";
            boolean digit = sign >= '0' && sign <= '9';
            if (sign == 10 || sign == 32) {
                due("blank " + sign, put(new NineOnGrass(), text), 1);
            } else if (sign >= 'a' && sign <= 'z') {
                fault(text, 2, 0);
            } else if (digit) {
                int n = 10 * (sign - '0') + 8;
                due("edge" + n, put(new NineOnGrass(), text), n == 8 ? 1 : -13);
            } else {
                fault(text, sign == ';' ? 2 : 1, 4);
            }
        }
        due("many", put(new NineOnGrass(), " \n edge\n\n8 \n;\n "), 1);
    }

    @Says({"words (small letters), N (1 to 3 digits), the sign ;", "1 no TOKEN begins so"})
    static void p03_words_are_small_letters_numbers_digits_and_one_sign() {
        for (int sign = 0; sign < 256; sign++) {
            char c = (char) sign;
            boolean blank = sign == 10 || sign == 32;
            boolean token = c >= 'a' && c <= 'z' || c >= '0' && c <= '9' || c == ';';
            if (blank) {
                due("blank " + sign, put(new NineOnGrass(), "near 1;" + c), 1);
            } else {
                fault("near 1;" + c, token ? 2 : 1, 7);
                fault("near 1; " + c + " near 1;", token ? 2 : 1, 8);
            }
        }
        for (String word : new String[] {"`dge", "{dge", "Edge", "eDge", "edgE", "ed`e", "ed{e", "ED"}) {
            int bad = 0;
            while (word.charAt(bad) >= 'a' && word.charAt(bad) <= 'z') {
                bad++;
            }
            // Up to its first sign that is none of a word it is a word that can't stand there.
            fault(word + " 8;", bad == 0 ? 1 : 2, 0);
        }
        for (String n : new String[] {"/", ":", "/8", ":8", "+8", "-8", ".8", "x8"}) {
            fault("edge " + n + ";", n.equals("x8") ? 2 : 1, 5);
        }
        fault("edge 8/;", 1, 6);
        fault("edge 8:;", 1, 6);
        fault("edge 8<", 1, 6);
    }

    @Says({"N (1 to 3 digits)", "(4 digits and more: at their first)"})
    static void p03_numbers_of_1_to_3_digits() {
        for (String n : new String[] {"7", "07", "007"}) {
            due("edge " + n, on("edge " + n + ";").count(1), 7);
        }
        for (String n : new String[] {"0007", "1000", "9999", "00007", "12345678901234567890", "0".repeat(700) + "7"}) {
            fault("edge " + n + ";", 1, 5);
            fault(n + ";", 1, 0);
            fault("edge " + n, 1, 5);
        }
        fault("edge 999;", 3, 5);
        fault("edge 000;", 3, 5);
        due("000 is 0", on("worth 000;").count(3), 0);
        fault("edge 7 0007;", 1, 7);
        fault("slow 1 at 288 0288;", 1, 14);
    }

    // ---- promise 3: FAULTS

    @Says("FAULTS, the first along the text, of one TOKEN the least kind")
    static void p03_faults_the_first_along_the_text() {
        fault("edge 9; ! edge", 3, 5);
        fault("edge ; edge 9;", 2, 5);
        fault("edge 8; ! edge 9;", 1, 8);
        fault("near 1;".repeat(30) + "edge 8; edge 9; !", 4, 210);
        fault("edge 9;" + "near 1;".repeat(30), 3, 5);
        fault("ball 0" + HIT.repeat(9) + " !", 5, 159);
        fault("ball 0" + HIT.repeat(8) + " !" + HIT, 1, 159);
        fault("ball 0" + HIT.repeat(7) + " way 16 pace 1 for 1" + HIT, 3, 144);
    }

    @Says("of one TOKEN the least kind: 1 no TOKEN begins so (4 digits and more: at their first).")
    static void p03_of_one_token_the_least_kind() {
        String thirty = "near 1;".repeat(30);
        fault("edge ?", 1, 5);
        fault("?", 1, 0);
        fault("edge 1234", 1, 5);
        fault("edge 8 ?", 1, 7);
        fault("1234", 1, 0);
        fault("edge 8 999;", 2, 7);
        fault("999;", 2, 0);
        fault("ball 0 999;", 2, 7);
        fault(thirty + "?", 1, 210);
        fault(thirty + "1234", 1, 210);
        fault(thirty + "Edge 8;", 1, 210);
        fault(thirty + "zzz", 2, 210);
        fault(thirty + "way", 2, 210);
        fault(thirty + ";", 2, 210);
        fault(thirty + "999", 2, 210);
        fault("near 1;".repeat(29) + "ball 0" + HIT.repeat(8) + ";ball 0" + HIT + ";", 4, 203 + 159);
    }

    private static final String[] FULL = {"edge", "8", ";", "run", "9", ";", "worth", "20", ";", "side", "9", ";",
        "near", "1", ";", "slow", "5", "at", "148", "149", ";", "ball", "0", "way", "4", "pace", "2", "air", "3",
        "for", "3", "way", "0", "pace", "3", "for", "1", ";"};
    private static final int SECOND_CELL = 19;
    private static final int SECOND_WAY = 31;

    private static int place(int token) {
        int place = 0;
        for (int i = 0; i < token; i++) {
            place += FULL[i].length() + 1;
        }
        return place;
    }

    private static String with(int token, String other) {
        String[] all = FULL.clone();
        all[token] = other;
        return String.join(" ", all);
    }

    @Says("2 it can't stand there (the end: the text's length)")
    static void p03_it_cant_stand_there_the_end_is_the_texts_length() {
        String full = String.join(" ", FULL);
        due("the whole text", put(new NineOnGrass(), full), 7);
        for (int i = 1; i < FULL.length; i++) {
            String text = full.substring(0, place(i));
            if (FULL[i - 1].equals(";")) {
                due("ends behind a LINE: " + text, put(new NineOnGrass(), text) > 0, true);
                continue;
            }
            fault(text, 2, text.length());
            fault(text.substring(0, text.length() - 1), 2, text.length() - 1);
            fault(text + "\n\n", 2, text.length() + 2);
        }
    }

    @Says("2 it can't stand there (the end: the text's length)")
    static void p03_it_cant_stand_there_another_token() {
        for (int i = 0; i < FULL.length; i++) {
            fault(with(i, "zzz"), 2, place(i));
            fault(with(i, "!"), 1, place(i));
            fault(with(i, "7777"), 1, place(i));
            boolean sign = FULL[i].equals(";");
            boolean number = Character.isDigit(FULL[i].charAt(0));
            // Behind one CELL and behind one HIT a LINE may end: then the TOKEN behind can't stand.
            if (!sign) {
                fault(with(i, ";"), 2, place(i == SECOND_CELL || i == SECOND_WAY ? i + 1 : i) + lost(i, ";"));
            }
            // Behind CELLS another one may stand.
            if (!number) {
                fault(with(i, "3"), 2, place(sign && i == SECOND_CELL + 1 ? i + 1 : i));
            }
        }
    }

    /** How much sooner the TOKEN behind comes, where that is the one that can't stand. */
    private static int lost(int token, String other) {
        return token == SECOND_CELL || token == SECOND_WAY ? other.length() - FULL[token].length() : 0;
    }

    @Says("2 it can't stand there (the end: the text's length)")
    static void p03_it_cant_stand_there_a_word_that_is_nearly_another() {
        for (int i = 0; i < FULL.length; i++) {
            String word = FULL[i];
            if (!Character.isLetter(word.charAt(0))) {
                continue;
            }
            fault(with(i, word + "s"), 2, place(i));
            fault(with(i, word.substring(0, word.length() - 1)), 2, place(i));
            fault(with(i, word.substring(1)), 2, place(i));
            for (int k = 0; k < word.length(); k++) {
                fault(with(i, word.substring(0, k) + "q" + word.substring(k + 1)), 2, place(i));
            }
        }
    }

    @Says("HIT: way N pace N [ air N ] for N.")
    static void p03_hit_air_may_be_missing_once() {
        fault("ball 0;", 2, 6);
        fault("ball 0 pace 1 way 1 for 1;", 2, 7);
        fault("ball 0 way 1 air 1 pace 1 for 1;", 2, 13);
        fault("ball 0 way 1 pace 1 air 1 air 1 for 1;", 2, 26);
        fault("ball 0 way 1 pace 1 for 1 air 1;", 2, 26);
        fault("ball 0 way 1 pace 1 air 1;", 2, 25);
        NineOnGrass x = on("ball 0 way 1 pace 1 air 7 for 1 way 2 pace 2 for 2 way 3 pace 3 air 1 for 3;");
        int[] airs = {7, 0, 1};
        for (int hit = 0; hit < 3; hit++) {
            due("air of " + hit, x.hit(0, hit, 2), airs[hit]);
        }
    }

    @Says("3 N is out of its bounds")
    static void p03_n_is_out_of_its_bounds_before_what_stands_behind() {
        fault("edge 9", 3, 5);
        fault("edge 9 9", 3, 5);
        fault("edge 9 !", 3, 5);
        fault("slow 21 zzz", 3, 5);
        fault("slow 2 at 289 !", 3, 10);
        fault("ball 6 !", 3, 5);
        fault("ball 0 way 16", 3, 11);
        fault("ball 0 way 0 pace 0", 3, 18);
        fault("ball 0 way 0 pace 1 air 9", 3, 24);
        fault("ball 0 way 0 pace 1 for 0", 3, 24);
    }

    @Says("5 the word way of a 9th HIT of a BALL")
    static void p03_the_word_way_of_a_9th_hit_of_a_ball() {
        int nine = 6 + 8 * HIT.length() + 1;
        due("8", put(new NineOnGrass(), "ball 3" + HIT.repeat(8) + ";"), 1);
        fault("ball 3" + HIT.repeat(9) + ";", 5, nine);
        fault("ball 3" + HIT.repeat(8) + " way", 5, nine);
        fault("ball 3" + HIT.repeat(8) + " way 99", 5, nine);
        for (int first = 1; first <= 8; first++) {
            String two = "ball 3" + HIT.repeat(first) + ";ball 4" + HIT + ";ball 3" + HIT.repeat(8 - first);
            if (first < 8) {
                due("8 in two LINES", put(new NineOnGrass(), two + ";"), 3);
            }
            fault(two + " way 1", 5, two.length() + 1);
        }
        fault("ball 3" + HIT.repeat(8) + ";ball 3;", 2, nine + 6);
        fault("ball 3" + HIT.repeat(8) + ";ball 3 zzz", 2, nine + 7);
        fault("ball 3" + HIT.repeat(8) + ";ball 3 !", 1, nine + 7);
        fault("ball 3" + HIT.repeat(8) + " zzz", 2, nine);
        due("8 of one, 8 of another", put(new NineOnGrass(), "ball 3" + HIT.repeat(8) + ";ball 4" + HIT.repeat(8) + ";"), 2);
    }

    @Says("THE FIELD is a TEXT of at most 800 bytes")
    static void p03_a_text_of_800_bytes_is_read_to_its_end() {
        NineOnGrass x = on(" ".repeat(793) + "edge 5;");
        counts("800 bytes", x, 0, 1, 5);
        fault(" ".repeat(794) + "edge 5", 2, 800);
        fault(" ".repeat(799) + "e", 2, 799);
        fault(" ".repeat(799) + "!", 1, 799);
        fault(" ".repeat(799) + ";", 2, 799);
        fault(" ".repeat(792) + "edge 005", 2, 800);
        fault(" ".repeat(792) + "edge 009", 3, 797);
        fault(" ".repeat(791) + "edge 0005", 1, 796);
        due("799 bytes", put(new NineOnGrass(), " ".repeat(792) + "edge 5;"), 1);
    }

    // ---- promise 4: fault

    @Says("Of the latest field() that threw nothing, what 0: the FAULT (0 without, and at first), 1: its place (NONE without).")
    static void p04_of_the_latest_field_that_threw_nothing() {
        NineOnGrass x = new NineOnGrass();
        due("fault(0) at first", x.fault(0), 0);
        due("fault(1) at first", x.fault(1), NONE);
        put(x, "edge 9;");
        due("fault(0)", x.fault(0), 3);
        due("fault(1)", x.fault(1), 5);
        refused("field(1)", BAD, () -> x.field(1));
        refused("field(-1)", BAD, () -> x.field(-1));
        due("fault(0) behind a throw", x.fault(0), 3);
        due("fault(1) behind a throw", x.fault(1), 5);
        put(x, ";");
        due("fault(0) of the next", x.fault(0), 2);
        due("fault(1), the first place", x.fault(1), 0);
        put(x, "");
        due("fault(0) without", x.fault(0), 0);
        due("fault(1) without", x.fault(1), NONE);
    }

    @Says("NONE for others.")
    static void p04_none_for_others() {
        NineOnGrass x = new NineOnGrass();
        put(x, "edge 9;");
        for (int what : new int[] {-1, 2, 3, LEAST, GREATEST}) {
            due("fault(" + what + ")", x.fault(what), NONE);
        }
    }

    // ---- promises 5 to 7: hits, hit, tick

    @Says({"How many HITS a BALL has.", "NoSuchElementException: no such BALL (0 to 5; as everywhere)"})
    static void p05_no_such_ball_0_to_5() {
        NineOnGrass x = on("ball 0" + HIT + ";ball 5" + HIT.repeat(8) + ";");
        for (int ball : NO_BALLS) {
            refused("hits(" + ball + ")", NO_SUCH, () -> x.hits(ball));
        }
        int[] hits = {1, 0, 0, 0, 0, 8};
        for (int ball = 0; ball <= 5; ball++) {
            due("hits(" + ball + ")", x.hits(ball), hits[ball]);
        }
    }

    @Says("NoSuchElementException: no such HIT (as everywhere)")
    static void p06_no_such_hit() {
        NineOnGrass x = on("ball 0" + HIT + ";ball 5" + HIT.repeat(8) + ";");
        due("hit(0, 0, 1)", x.hit(0, 0, 1), 1);
        due("hit(5, 7, 1)", x.hit(5, 7, 1), 1);
        for (int hit : new int[] {-1, 1, 8, LEAST, GREATEST}) {
            refused("hit(0, " + hit + ", 1)", NO_SUCH, () -> x.hit(0, hit, 1));
        }
        for (int hit : new int[] {-1, 8, LEAST, GREATEST}) {
            refused("hit(5, " + hit + ", 1)", NO_SUCH, () -> x.hit(5, hit, 1));
        }
        refused("hit(3, 0, 1): a BALL without HITS", NO_SUCH, () -> x.hit(3, 0, 1));
        for (int ball : NO_BALLS) {
            refused("hit(" + ball + ", 0, 1)", NO_SUCH, () -> x.hit(ball, 0, 1));
        }
        put(x, "ball 5" + HIT.repeat(2) + ";");
        due("hit(5, 1, 1)", x.hit(5, 1, 1), 1);
        refused("hit(5, 2, 1): of the text before", NO_SUCH, () -> x.hit(5, 2, 1));
    }

    @Says({"Of a HIT, what 0: way, 1: pace, 2: air (as the BATTER makes them), 3: for, 4: STEPS, "
        + "5: how often it is in THE BOOK.", "IllegalArgumentException: another what"})
    static void p06_what_0_to_5() {
        NineOnGrass x = on("ball 4 way 15 pace 9 air 8 for 99 way 5 pace 2 for 3;");
        x.book(4, 1, 6);
        int[][] want = {{15, 9, 8, 99, 3, 0}, {5, 2, 0, 3, 3, 6}};
        for (int hit = 0; hit < 2; hit++) {
            for (int what = 0; what <= 5; what++) {
                due("hit(4, " + hit + ", " + what + ")", x.hit(4, hit, what), want[hit][what]);
            }
        }
        for (int what : new int[] {-1, 6, LEAST, GREATEST}) {
            refused("hit(4, 0, " + what + ")", BAD, () -> x.hit(4, 0, what));
        }
    }

    private static final int[][] PATH = {{0, -1}, {1, -2}, {1, -1}, {2, -1}, {1, 0}, {2, 1}, {1, 1}, {1, 2}, {0, 1},
        {-1, 2}, {-1, 1}, {-2, 1}, {-1, 0}, {-2, -1}, {-1, -1}, {-1, -2}};

    @Says({"WAYS: by each step x and y grow by: 0: 0, -1; 1: 1, -2; 2: 1, -1; 3: 2, -1; 4: 1, 0; 5: 2, 1; 6: 1, 1; "
        + "7: 1, 2; 8: 0, 1; 9 to 15 likewise as 7 to 1, but x the other way", "the BAT is at x 8, y 8"})
    static void p06_ways_by_each_step() {
        int[] longest = {8, 3, 5, 3, 8, 3, 5, 3, 8, 3, 5, 3, 8, 3, 5, 3};
        for (int way = 0; way < 16; way++) {
            StringBuilder text = new StringBuilder("ball 0 way " + way + " pace 1 for 1;");
            for (int k = 1; k <= longest[way]; k++) {
                text.append("slow ").append(k).append(" at ").append(at(k * PATH[way][0], k * PATH[way][1])).append(';');
            }
            NineOnGrass x = on(text.toString());
            for (int k = 1, sum = 0; k <= longest[way]; k++) {
                sum += 1 + k;
                due("way " + way + ", step " + k, x.tick(0, 0, k), sum);
            }
            due("STEPS of way " + way, x.hit(0, 0, 4), longest[way]);
        }
    }

    @Says("A HIT comes to its step k (1, 2, ..) from the BAT on as long as these CELLS are IN; STEPS: how many.")
    static void p06_steps_as_long_as_these_cells_are_in() {
        int[][] steps = {{2, 3, 4, 5, 6, 7, 8}, {0, 1, 1, 2, 2, 3, 3}, {1, 2, 2, 3, 4, 4, 5}};
        for (int edge = 2; edge <= 8; edge++) {
            for (int way = 0; way < 16; way++) {
                NineOnGrass x = on("edge " + edge + ";ball 0 way " + way + " pace 2 for 1;");
                int want = steps[way % 2 == 1 ? 1 : way % 4 == 2 ? 2 : 0][edge - 2];
                due("STEPS of way " + way + ", edge " + edge, x.hit(0, 0, 4), want);
                if (want > 0) {
                    due("its last step", x.tick(0, 0, want), 2 * want);
                }
                refused("the step behind", BAD, () -> x.tick(0, 0, want + 1));
            }
        }
    }

    @Says({"TICK of a HIT's step.", "IllegalArgumentException: it has no such step"})
    static void p07_it_has_no_such_step() {
        NineOnGrass x = on("ball 0 way 4 pace 9 for 1 way 1 pace 1 for 1;edge 2;");
        due("tick(0, 0, 1)", x.tick(0, 0, 1), 9);
        due("tick(0, 0, 2)", x.tick(0, 0, 2), 18);
        for (int step : new int[] {0, 3, 9, -1, LEAST, GREATEST}) {
            refused("tick(0, 0, " + step + ")", BAD, () -> x.tick(0, 0, step));
        }
        for (int step : new int[] {0, 1, -1}) {
            refused("tick of a HIT without STEPS, " + step, BAD, () -> x.tick(0, 1, step));
        }
        NineOnGrass y = on("ball 0 way 4 pace 9 for 1;");
        due("tick(0, 0, 8)", y.tick(0, 0, 8), 72);
        refused("tick(0, 0, 9)", BAD, () -> y.tick(0, 0, 9));
        refused("tick(0, 0, 0)", BAD, () -> y.tick(0, 0, 0));
    }

    @Says({"no such BALL (0 to 5; as everywhere)", "no such HIT (as everywhere)"})
    static void p07_no_such_ball_no_such_hit() {
        NineOnGrass x = on("ball 1 way 4 pace 9 for 1;");
        for (int ball : NO_BALLS) {
            refused("tick(" + ball + ", 0, 1)", NO_SUCH, () -> x.tick(ball, 0, 1));
        }
        for (int hit : new int[] {-1, 1, LEAST, GREATEST}) {
            refused("tick(1, " + hit + ", 1)", NO_SUCH, () -> x.tick(1, hit, 1));
        }
        refused("tick(0, 0, 1)", NO_SUCH, () -> x.tick(0, 0, 1));
    }

    @Says("TICK of k: the sum over its steps to k of pace, and of slow of that CELL, if the step isn't below air.")
    static void p07_slow_if_the_step_isnt_below_air() {
        String slow = "slow 10 at 145;slow 5 at 146;slow 1 at 147;slow 20 at 144;";
        int[][] ticks = {{12, 19, 22, 24}, {12, 19, 22, 24}, {2, 9, 12, 14}, {2, 4, 7, 9}, {2, 4, 6, 8}};
        for (int air = 0; air <= 4; air++) {
            NineOnGrass x = on(slow + "ball 0 way 4 pace 2" + (air > 0 ? " air " + air : "") + " for 1;");
            for (int k = 1; k <= 4; k++) {
                due("tick, air " + air + ", step " + k, x.tick(0, 0, k), ticks[air][k - 1]);
            }
        }
        NineOnGrass x = on("slow 20 at 145 146 147 148 149 150 151 152;ball 0 way 4 pace 9 for 1;");
        due("the greatest TICK", x.tick(0, 0, 8), 8 * 29);
    }
}
