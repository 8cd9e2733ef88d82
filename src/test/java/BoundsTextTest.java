/** The boundary sentences of promises 1 to 9 and of the text in "Terms". */
public final class BoundsTextTest extends Bounds {
    public static void main(String[] args) throws ReflectiveOperationException {
        run(BoundsTextTest.class);
    }

    /** An object that has been told something, and then a text that is taken. */
    private static void taken(String text, int lines) {
        AimTunnel x = rich();
        x.end(0);
        Check.feed(x, text);
        due("text of '" + text + "'", x.text(), lines);
        due("fault of '" + text + "'", x.fault(), 0);
    }

    /** A text that is refused: what was told stays, the tape is empty. */
    private static void refusedText(String text, int fault, int place) {
        AimTunnel x = rich();
        x.end(0);
        Check.feed(x, text);
        due("text of '" + text + "'", x.text(), -10 - place);
        due("fault of '" + text + "'", x.fault(), fault);
        due("tape behind '" + text + "'", x.count(2), 0);
        due("diggers behind '" + text + "'", x.rule(0), 4);
        due("rocks behind '" + text + "'", x.rule(1), 4);
        due("words behind '" + text + "'", x.rule(2), 3);
        due("seen behind '" + text + "'", x.count(0), 2);
        due("images behind '" + text + "'", x.count(1), 1);
    }

    private static String repeated(String what, int times) {
        return what.repeat(times);
    }

    // ---- the text, in "Terms"

    @Says(promise = 0, value = "THE TAPE has 160 bytes, places from 0.")
    static void tape_160_bytes_places_from_0() {
        String line = "plain 0 0;";
        taken(line + " ".repeat(150), 1);
        taken(" ".repeat(150) + line, 1);
        refusedText("?" + " ".repeat(159), 1, 0);
        refusedText(" ?" + " ".repeat(158), 1, 1);
        refusedText(" ".repeat(159) + "?", 1, 159);
        refusedText(" ".repeat(155) + "plain", 2, 160);
        AimTunnel x = new AimTunnel();
        Check.feed(x, " ".repeat(150) + line + "?");
        due("a 161st byte is not on the tape", x.text(), 1);
    }

    @Says(promise = 0, value = "TOKENS, each as long as may be, blanks (32) between: NAMES (a .. z), NUMBERS (1 or 2 figures), one ; .")
    static void tokens_blanks_between() {
        taken("", 0);
        taken(" ", 0);
        taken("plain 0 0;", 1);
        taken("   plain   0   0   ;   ", 1);
        taken("plain0 0;rock10;", 2);
        // 31 and 33 are next to 32; a tab and a line's end are no blanks.
        for (char c : new char[] {31, 33, 9, 10, 13, 0, 127}) {
            refusedText("plain" + c + "0 0;", 1, 5);
        }
    }

    @Says(promise = 0, value = "each as long as may be, blanks (32) between: NAMES (a .. z), NUMBERS (1 or 2 figures), one ; .")
    static void tokens_signs_next_to_those_of_tokens() {
        for (char c : new char[] {'`', '{', '/', ':', '<', 'A', 'Z', '@', '['}) {
            refusedText("rock 1;" + c, 1, 7);
            refusedText("rock" + c + "1;", 1, 4);
            refusedText("rock 1" + c + ";", 1, 6);
        }
        refusedText("a", 2, 0);
        refusedText("z", 2, 0);
        refusedText("rock a;", 2, 5);
        refusedText("rock z;", 2, 5);
        refusedText("rocka 1;", 2, 0);
        refusedText("zrock 1;", 2, 0);
        refusedText("ro ck 1;", 2, 0);
        taken("rock 0;rock 7;rock 70;", 3);
        refusedText("rock 9;", 3, 5);
        refusedText("plain 0 0;;", 2, 10);
    }

    @Says(promise = 0, value = "NUMBERS (1 or 2 figures)")
    static void tokens_numbers_of_1_or_2_figures() {
        taken("rock 1;", 1);
        taken("rock 01;", 1);
        refusedText("rock 001;", 1, 5);
        refusedText("rock " + repeated("0", 100) + ";", 1, 5);
        // Two numbers need a blank between: without it they are one.
        refusedText("plain 00;", 2, 8);
        refusedText("plain 0000;", 1, 6);
        taken("plain 00 00;", 1);
    }

    @Says(promise = 0, value = "text: { line } line: plain N N ; | cynic N N ; | lover N N ; | guard N N ; | rock N ; | faith N N ; | word N N N ;")
    static void lines_each_with_its_numbers() {
        String[] names = {"plain", "cynic", "lover", "guard", "rock", "faith", "word"};
        int[] numbers = {2, 2, 2, 2, 1, 2, 3};
        for (int i = 0; i < names.length; i++) {
            String head = i < 5 ? "" : "plain 1 1;";
            String line = head + names[i] + repeated(" 0", numbers[i]);
            taken(line + ";", i < 5 ? 1 : 2);
            refusedText(line + " 0;", 2, line.length() + 1);
            refusedText(line, 2, line.length());
            String less = head + names[i] + repeated(" 0", numbers[i] - 1);
            refusedText(less + ";", 2, less.length());
            refusedText(less + " ", 2, less.length() + 1);
            refusedText(head + names[i] + "s" + repeated(" 0", numbers[i]) + ";", 2, head.length());
            refusedText(head + "x" + names[i].substring(1) + repeated(" 0", numbers[i]) + ";", 2, head.length());
            refusedText(head + names[i].substring(0, names[i].length() - 1) + "x" + repeated(" 0", numbers[i]) + ";", 2, head.length());
            refusedText(head + names[i].substring(1) + repeated(" 0", numbers[i]) + ";", 2, head.length());
            refusedText(head + names[i].substring(0, names[i].length() - 1) + repeated(" 0", numbers[i]) + ";", 2, head.length());
        }
    }

    @Says(promise = 0, value = "plain, cynic, lover, guard: a DIGGER more: AT, AIM. rock: a CELL. faith: a DIGGER (0 to 3), FAITH. word: a WORD more: its FOOT, a DIGGER (0 to 3), AIM.")
    static void lines_what_they_tell() {
        AimTunnel x = Check.told("plain 0 77;cynic 7 70;lover 70 7;guard 77 0;rock 1;rock 76;faith 0 0;faith 3 40;word 0 0 77;word 20 3 0;");
        int[][] diggers = {{0, 0, 77, 0, 0, 0}, {1, 7, 70, 0, 20, 0}, {2, 70, 7, 0, 20, 0}, {3, 77, 0, 0, 40, 0}};
        for (int d = 0; d < 4; d++) {
            for (int what = 0; what <= 5; what++) {
                due("digger(" + d + ", " + what + ")", x.digger(d, what), diggers[d][what]);
            }
        }
        due("rock(1)", x.rock(1), 1);
        due("rock(76)", x.rock(76), 1);
        due("rocks", x.rule(1), 2);
        int[][] words = {{0, 0, 77}, {20, 3, 0}};
        for (int i = 0; i < 2; i++) {
            for (int what = 0; what <= 2; what++) {
                due("word(" + i + ", " + what + ")", x.word(i, what), words[i][what]);
            }
        }
    }

    @Says(promise = 0, value = "FAULTS, the first met as it is read (a TOKEN is read when the one before has been taken):")
    static void faults_the_first_met() {
        refusedText("rock 8 ?", 3, 5);
        refusedText("rock 1;rock 1 ?", 4, 12);
        refusedText("rock 1;rock 1 1", 4, 12);
        refusedText("rocks ?", 2, 0);
        refusedText("plain 000 80;", 1, 6);
        refusedText("plain 80 000;", 3, 6);
        refusedText("faith 4 41;", 3, 6);
        refusedText("faith 0 41", 3, 8);
        refusedText("faith 0 1;faith 0 41;", 4, 16);
        refusedText("faith 0 1;faith 0;", 4, 16);
        refusedText("word 21 4 8;", 3, 5);
        refusedText("word 20 4 8;", 3, 8);
        refusedText("plain 0 0;rock 0;?", 1, 17);
        refusedText("faith 0 0;plain", 2, 15);
        refusedText("rock 1 ?;", 1, 7);
        refusedText("rock 1 2;?", 2, 7);
        refusedText(repeated("plain 0 0;", 4) + "plain 80", 5, 40);
        refusedText(repeated("plain 0 0;", 4) + "plain", 5, 40);
        refusedText(repeated("plain 0 0;", 4) + "rock 0;rock 0;", 4, 52);
        refusedText("rock 0;rock 1;rock 2;rock 3;rock 4;rock 5;rock 6;rock 7;rock 0;", 5, 56);
    }

    @Says(promise = 0, value = "1 no TOKEN, a NUMBER that is too long (its first byte).")
    static void fault_1_no_token_or_too_long() {
        refusedText("?", 1, 0);
        refusedText("  ?", 1, 2);
        refusedText("plain 0 0;?", 1, 10);
        refusedText("plain 0 -1;", 1, 8);
        refusedText("100", 1, 0);
        refusedText("plain 0 100;", 1, 8);
        refusedText("plain 0  1234", 1, 9);
        // Too long also where no number may stand.
        refusedText("plain 0 0 100;", 1, 10);
    }

    @Says(promise = 0, value = "2 a TOKEN that can not stand there (a NAME that begins no line; or the end: the length).")
    static void fault_2_a_token_that_can_not_stand_there() {
        refusedText("diggers 0 0;", 2, 0);
        refusedText("plain 0 0; digger 0 0;", 2, 11);
        refusedText("10;", 2, 0);
        refusedText(" ;", 2, 1);
        refusedText("plain plain 0;", 2, 6);
        refusedText("plain ;", 2, 6);
        refusedText("plain 0 0 plain", 2, 10);
        refusedText("plain 0 0 7;", 2, 10);
        refusedText("plain", 2, 5);
        refusedText("plain 0 0", 2, 9);
        refusedText("plain 0 0   ", 2, 12);
        refusedText("plain 0 0; plain 0", 2, 18);
    }

    @Says(promise = 0, value = "3 a NUMBER out of its bounds (a CELL: tens, ones 0 to 7).")
    static void fault_3_a_cell_out_of_its_bounds() {
        for (int cell = 0; cell <= 99; cell++) {
            boolean is = cell / 10 <= 7 && cell % 10 <= 7;
            String two = cell < 10 ? "0" + cell : "" + cell;
            if (is) {
                taken("rock " + cell + ";", 1);
                taken("guard " + two + " " + two + ";", 1);
                taken("plain 0 0;word 0 0 " + two + ";", 2);
            } else {
                refusedText("rock " + cell + ";", 3, 5);
                refusedText("guard " + two + " 0;", 3, 6);
                refusedText("cynic 0 " + two + ";", 3, 8);
                refusedText("plain 0 0;word 0 0 " + two + ";", 3, 19);
            }
        }
    }

    @Says(promise = 0, value = "3 a NUMBER out of its bounds")
    static void fault_3_digger_faith_foot_out_of_their_bounds() {
        String four = "plain 0 0;plain 0 0;plain 0 0;plain 0 0;";
        for (int d = 0; d <= 12; d++) {
            if (d <= 3) {
                taken(four + "faith " + d + " 0;", 5);
                taken(four + "word 0 " + d + " 0;", 5);
            } else {
                refusedText(four + "faith " + d + " 0;", 3, 46);
                refusedText(four + "word 0 " + d + " 0;", 3, 47);
            }
        }
        for (int v = 0; v <= 99; v++) {
            if (v <= 40) {
                taken("plain 0 0;faith 0 " + v + ";", 2);
            } else {
                refusedText("plain 0 0;faith 0 " + v + ";", 3, 18);
            }
            if (v <= 20) {
                taken("plain 0 0;word " + v + " 0 0;", 2);
            } else {
                refusedText("plain 0 0;word " + v + " 0 0;", 3, 15);
            }
        }
    }

    @Says(promise = 0, value = "4 a CELL that is ROCK already, a DIGGER whose FAITH is told already (it).")
    static void fault_4_told_already() {
        refusedText("rock 5;rock 5;", 4, 12);
        refusedText("rock 5;rock 6;rock  05;", 4, 20);
        taken("rock 5;rock 6;", 2);
        refusedText("faith 0 1;faith 0 1;plain 0 0;", 4, 16);
        refusedText("faith 3 1;faith 00 1;faith  0 2;", 4, 28);
        taken("faith 0 1;faith 1 1;plain 0 0;plain 0 0;", 4);
        // The rocks that there were are none of this text's.
        taken("rock 10;rock 20;", 2);
    }

    @Says(promise = 0, value = "5 the 5th DIGGER, the 9th rock, the 7th word (its NAME).")
    static void fault_5_the_5th_digger() {
        String[] kinds = {"plain", "cynic", "lover", "guard"};
        for (String kind : kinds) {
            taken(repeated("plain 0 0;", 3) + kind + " 0 0;", 4);
            refusedText(repeated("plain 0 0;", 4) + " " + kind + " 0 0;", 5, 41);
        }
    }

    @Says(promise = 0, value = "5 the 5th DIGGER, the 9th rock, the 7th word (its NAME).")
    static void fault_5_the_9th_rock() {
        String seven = "rock 0;rock 1;rock 2;rock 3;rock 4;rock 5;rock 6;";
        taken(seven, 7);
        taken(seven + "rock 7;", 8);
        refusedText(seven + "rock 7; rock 77;", 5, 57);
    }

    @Says(promise = 0, value = "5 the 5th DIGGER, the 9th rock, the 7th word (its NAME).")
    static void fault_5_the_7th_word() {
        String five = "plain 0 0;" + repeated("word 0 0 0;", 5);
        taken(five, 6);
        taken(five + "word 0 0 0;", 7);
        refusedText(five + "word 0 0 0; word 0 0 0;", 5, 77);
    }

    @Says(promise = 0, value = "Behind all (the length): 6 a DIGGER that there is not;")
    static void fault_6_a_digger_that_there_is_not() {
        StringBuilder text = new StringBuilder();
        for (int many = 0; many <= 3; many++) {
            String faith = text + "faith " + many + " 1;";
            refusedText(faith, 6, faith.length());
            refusedText(faith + "  ", 6, faith.length() + 2);
            String word = text + "word 0 " + many + " 1;";
            refusedText(word, 6, word.length());
            String before = "faith " + many + " 1;word 0 " + many + " 1;" + text;
            refusedText(before, 6, before.length());
            taken(before + "guard 0 0;", many + 3);
            text.append("guard 0 0;");
        }
    }

    @Says(promise = 0, value = "Behind all (the length): 6 a DIGGER that there is not; 7 a DIGGER is AT a ROCK.")
    static void fault_7_a_digger_is_at_a_rock() {
        refusedText("plain 0 0;rock 0;", 7, 17);
        refusedText("rock 0;plain 0 0; ", 7, 18);
        refusedText("plain 1 0;plain 2 0;plain 3 0;plain 77 0;rock 77;", 7, 49);
        taken("plain 1 0;rock 0;", 2);
        refusedText("plain 0 0;rock 0;faith 1 1;", 6, 27);
        refusedText("plain 0 0;rock 0;word 1 1 1;", 6, 28);
    }

    @Says(promise = 0, value = "A text that is taken tells all, in place of what there was; nothing is SEEN; IMAGES are gone.")
    static void text_taken_in_place_of_what_there_was() {
        AimTunnel x = rich();
        x.keep(0);
        x.end(0);
        Check.feed(x, "cynic 1 2;");
        due("text()", x.text(), 1);
        int[] rules = {1, 0, 0, 0, 0, 0};
        for (int what = 0; what <= 5; what++) {
            due("rule(" + what + ")", x.rule(what), rules[what]);
        }
        int[] digger = {1, 1, 2, 0, 20, 0};
        for (int what = 0; what <= 5; what++) {
            due("digger(0, " + what + ")", x.digger(0, what), digger[what]);
        }
        for (int cell : new int[] {10, 20, 44, 55}) {
            due("rock(" + cell + ")", x.rock(cell), 0);
        }
        due("seen", x.count(0), 0);
        due("images", x.count(1), 0);
        due("back(0)", x.back(0), STATE);
        due("back(1)", x.back(1), STATE);
        due("keep(0)", x.keep(0), 0);
        due("cells of sheet 0", x.count(3), 6);
        due("torn()", x.torn(), 3);
    }

    @Says(promise = 0, value = "A text that is taken tells all, in place of what there was;")
    static void text_taken_with_all_as_it_is_at_first() {
        AimTunnel x = Check.told("guard 1 0;guard 2 0;guard 3 0;plain 4 4;");
        for (int d = 0; d < 4; d++) {
            x.alter(d, 3, 3);
            x.alter(d, 4, 40 - d);
        }
        x.dig(1);
        x.runs(7, 0);
        Check.feed(x, "plain 1 0;plain 2 0;plain 3 0;plain 4 0;");
        x.text();
        for (int d = 0; d < 4; d++) {
            int[] due = {0, d + 1, 0, 0, 20, 0};
            for (int what = 0; what <= 5; what++) {
                due("digger(" + d + ", " + what + ")", x.digger(d, what), due[what]);
            }
        }
    }

    // ---- promise 1

    @Says(promise = 1, value = "Nobody, no ROCK; SHEETS of nothing.")
    static void p01_new_object() {
        AimTunnel x = new AimTunnel();
        for (int what = 0; what <= 5; what++) {
            due("rule(" + what + ")", x.rule(what), 0);
        }
        due("digger(0, 0)", x.digger(0, 0), BAD);
        for (int cell = 0; cell <= 77; cell += cell % 10 == 7 ? 3 : 1) {
            due("rock(" + cell + ")", x.rock(cell), 0);
        }
        for (int k = 0; k < 4; k++) {
            due("lay(" + k + ", 0, 0)", x.lay(k, 0, 0), -11);
        }
        int[] counts = {0, 0, 0, NONE, 0};
        for (int what = 0; what <= 4; what++) {
            due("count(" + what + ")", x.count(what), counts[what]);
        }
        due("fault()", x.fault(), 0);
        due("torn()", x.torn(), 0);
        due("back(0)", x.back(0), STATE);
        due("back(1)", x.back(1), STATE);
        due("word(0, 0)", x.word(0, 0), BAD);
    }

    // ---- promise 2

    @Says(promise = 2, value = {"A byte (0 to 127) comes behind THE TAPE: how many it has.", "BAD;"})
    static void p02_feed_bytes_of_0_to_127() {
        AimTunnel x = new AimTunnel();
        due("feed(0)", x.feed(0), 1);
        due("feed(1)", x.feed(1), 2);
        due("feed(126)", x.feed(126), 3);
        due("feed(127)", x.feed(127), 4);
        eachRefused(Bounds::rich, "feed", BAD, (t, v) -> t.feed(v), LEAST, -128, -1, 128, 255, 256 + 'a', MOST);
        eachRefused(AimTunnel::new, "feed", BAD, (t, v) -> t.feed(v), -1, 128);
    }

    @Says(promise = 2, value = "FULL: more than 160.")
    static void p02_feed_full_with_160() {
        AimTunnel x = new AimTunnel();
        for (int i = 1; i <= 160; i++) {
            due("byte " + i, x.feed(32), i);
        }
        due("byte 161", x.feed(32), FULL);
        due("bytes", x.count(2), 160);
        x.end(159);
        due("byte 160 again", x.feed(32), 160);
        due("byte 161 again", x.feed(32), FULL);
        refused(() -> {
            AimTunnel full = new AimTunnel();
            Check.feed(full, " ".repeat(150) + "plain 1 2;");
            return full;
        }, "feed of a full tape", FULL, t -> t.feed('?'));
    }

    // ---- promise 3

    @Says(promise = 3, value = {"THE TAPE keeps its first n bytes: how many it had.", "BAD."})
    static void p03_end_first_n() {
        for (int n = 0; n <= 14; n++) {
            AimTunnel x = new AimTunnel();
            Check.feed(x, "rock 5;rock 6;");
            due("end(" + n + ")", x.end(n), 14);
            due("bytes", x.count(2), n);
            due("end(" + n + ") again", x.end(n), n);
            int text = x.text();
            due("what is left", text, n == 0 ? 0 : n < 4 ? -10 : n < 7 ? -10 - n : n == 7 ? 1 : n < 11 ? -17 : n < 14 ? -10 - n : 2);
        }
        AimTunnel full = new AimTunnel();
        Check.feed(full, " ".repeat(160));
        due("end(160) of 160", full.end(160), 160);
        due("end(161) of 160", full.end(161), BAD);
        due("end(0) of none", new AimTunnel().end(0), 0);
        due("end(1) of none", new AimTunnel().end(1), BAD);
        eachRefused(Bounds::rich, "end", BAD, (t, v) -> t.end(v), LEAST, -1, 17, 160, 161, MOST);
    }

    @Says(promise = 3, value = "THE TAPE keeps its first n bytes: how many it had.")
    static void p03_end_what_is_cut_off_does_not_come_back() {
        AimTunnel x = new AimTunnel();
        Check.feed(x, "rock 77;");
        x.end(6);
        x.feed(';');
        due("text()", x.text(), 1);
        due("rock(7)", x.rock(7), 1);
        due("rock(77)", x.rock(77), 0);
    }

    // ---- promise 4

    @Says(promise = 4, value = "THE TAPE (empty then) tells all: how many lines;")
    static void p04_text_how_many_lines() {
        AimTunnel x = new AimTunnel();
        due("text of nothing", x.text(), 0);
        Check.feed(x, "rock 1;");
        due("text of one", x.text(), 1);
        due("the tape is empty then", x.count(2), 0);
        due("so that it tells nothing", x.text(), 0);
        due("rock(1)", x.rock(1), 0);
        // As many lines as 160 bytes have room for.
        Check.feed(x, "rock0;rock1;rock2;rock3;rock4;rock5;rock6;rock7;word0 0 0;word0 0 0;word0 0 0;word0 0 0;word0 0 0;word0 0 0;"
                + "plain77 0;plain77 0;plain77 0;faith0 0;faith1 0;");
        due("bytes", x.count(2), 156);
        due("text of 19 lines", x.text(), 19);
    }

    @Says(promise = 4, value = "-10 less the place of its FAULT: that which was told stays.")
    static void p04_text_that_which_was_told_stays() {
        String[] wrong = {"?", "cynic", "cynic 1 2;rock 3;rock 8;", "cynic 1 2;rock 3;rock 3;", "faith 0 7;", "cynic 3 2;rock 3;",
            "cynic 1 2;cynic 1 2;cynic 1 2;cynic 1 2;cynic 1 2;"};
        for (String text : wrong) {
            // Both have an empty tape then, and both a fault; only one of them has read lines that it did not take.
            String difference = Portrait.difference(() -> {
                AimTunnel x = rich();
                x.end(0);
                return x;
            }, x -> {
                Check.feed(x, text);
                x.text();
                x.feed('?');
                x.text();
            });
            holds("'" + text + "' changes nothing, but " + difference, difference == null);
        }
        refusedText("?", 1, 0);
        refusedText(" ".repeat(159) + "?", 1, 159);
    }

    // ---- promise 5

    @Says(promise = 5, value = "The FAULT of the latest text(); 0.")
    static void p05_fault_of_the_latest_text() {
        AimTunnel x = new AimTunnel();
        due("fault() ahead of all texts", x.fault(), 0);
        String[] texts = {"?", "x", "rock 8;", "rock 1;rock 1;", repeated("guard 0 0;", 5), "faith 0 0;", "guard 0 0;rock 0;", "guard 0 0;"};
        int[] faults = {1, 2, 3, 4, 5, 6, 7, 0};
        for (int i = 0; i < texts.length; i++) {
            Check.feed(x, texts[i]);
            due("fault() ahead of text " + i, x.fault(), i == 0 ? 0 : faults[i - 1]);
            x.text();
            due("fault() of '" + texts[i] + "'", x.fault(), faults[i]);
        }
        x.feed('?');
        x.text();
        x.keep(0);
        x.back(0);
        x.feed(128);
        due("fault() of the latest text still", x.fault(), 1);
        x.text();
        due("fault() of an empty text", x.fault(), 0);
    }

    // ---- promise 6

    @Says(promise = 6, value = "0 DIGGERS, 1 ROCKS, 2 WORDS, 3 FOOT, 4 who is UP (bits), 5 who has FAITH 0 (bits).")
    static void p06_rule_each() {
        AimTunnel x = rich();
        int[] rules = {4, 4, 3, 2, 1, 8};
        for (int what = 0; what <= 5; what++) {
            due("rule(" + what + ")", x.rule(what), rules[what]);
        }
        for (int d = 0; d < 4; d++) {
            AimTunnel one = Check.told("plain 0 1;plain 2 3;plain 4 5;plain 6 7;faith " + d + " 0;");
            due("faith 0 of " + d, one.rule(5), 1 << d);
            one.alter(d, 4, 1);
            due("faith 1 of " + d, one.rule(5), 0);
            one.alter(d, 2, one.digger(d, 1));
            one.dig(1);
            due("up, and faith 0, of " + d, one.rule(4) * 16 + one.rule(5), 17 << d);
        }
        AimTunnel all = Check.told("plain 0 0;plain 2 2;plain 4 4;plain 6 6;");
        all.dig(1);
        due("all are up", all.rule(4), 15);
    }

    @Says(promise = 6, value = "BAD.")
    static void p06_rule_BAD() {
        eachRefused(Bounds::rich, "rule", BAD, (x, v) -> x.rule(v), LEAST, -1, 6, MOST);
        eachRefused(AimTunnel::new, "rule", BAD, (x, v) -> x.rule(v), -1, 6);
    }

    // ---- promise 7

    @Says(promise = 7, value = "Of a DIGGER: 0 KIND, 1 AT, 2 AIM, 3 HEADING, 4 FAITH, 5 whether he is UP (1, 0).")
    static void p07_digger_each() {
        AimTunnel x = rich();
        int[][] diggers = {{0, 5, 5, 0, 19, 1}, {0, 0, 41, 1, 18, 0}, {2, 53, 2, 1, 18, 0}, {3, 71, 0, 0, 0, 0}};
        for (int d = 0; d < 4; d++) {
            for (int what = 0; what <= 5; what++) {
                due("digger(" + d + ", " + what + ")", x.digger(d, what), diggers[d][what]);
            }
        }
    }

    @Says(promise = 7, value = "BAD.")
    static void p07_digger_BAD() {
        eachRefused(Bounds::rich, "digger what", BAD, (x, v) -> x.digger(3, v), LEAST, -1, 6, MOST);
        eachRefused(Bounds::rich, "digger d", BAD, (x, v) -> x.digger(v, 0), LEAST, -1, 4, MOST);
        eachRefused(AimTunnel::new, "digger d of nobody", BAD, (x, v) -> x.digger(v, 0), -1, 0, 1);
        due("digger(1, 0) of one", Check.told("guard 0 0;").digger(1, 0), BAD);
        due("digger(0, 0) of one", Check.told("guard 0 0;").digger(0, 0), 3);
    }

    // ---- promise 8

    @Says(promise = 8, value = "Whether there is ROCK in a CELL (1, 0).")
    static void p08_rock_1_or_0() {
        AimTunnel x = Check.told("rock 0;rock 7;rock 70;rock 77;");
        for (int cell = 0; cell <= 77; cell += cell % 10 == 7 ? 3 : 1) {
            boolean corner = cell == 0 || cell == 7 || cell == 70 || cell == 77;
            due("rock(" + cell + ")", x.rock(cell), corner ? 1 : 0);
        }
    }

    @Says(promise = 8, value = "BAD.")
    static void p08_rock_BAD() {
        eachRefused(Bounds::rich, "rock", BAD, (x, v) -> x.rock(v), NO_CELLS);
    }

    // ---- promise 9

    @Says(promise = 9, value = "Of a WORD: 0 FOOT, 1 DIGGER, 2 AIM.")
    static void p09_word_each() {
        AimTunnel x = Check.told("guard 0 0;guard 0 0;guard 0 0;guard 0 0;");
        for (int i = 0; i < 6; i++) {
            x.tell(4 * i, i % 4, 10 * i + 7 - i);
        }
        for (int i = 0; i < 6; i++) {
            due("word(" + i + ", 0)", x.word(i, 0), 4 * i);
            due("word(" + i + ", 1)", x.word(i, 1), i % 4);
            due("word(" + i + ", 2)", x.word(i, 2), 10 * i + 7 - i);
        }
        x.dig(20);
        due("words that have come are words still", x.word(0, 2), 7);
    }

    @Says(promise = 9, value = "BAD.")
    static void p09_word_BAD() {
        eachRefused(Bounds::rich, "word i", BAD, (x, v) -> x.word(v, 0), LEAST, -1, 3, 6, MOST);
        eachRefused(Bounds::rich, "word what", BAD, (x, v) -> x.word(2, v), LEAST, -1, 3, MOST);
        eachRefused(AimTunnel::new, "word of none", BAD, (x, v) -> x.word(v, 0), -1, 0);
        AimTunnel full = Check.told("guard 0 0;word 1 0 1;word 1 0 1;word 1 0 1;word 1 0 1;word 1 0 1;word 1 0 1;");
        due("word(5, 0) of 6", full.word(5, 0), 1);
        due("word(6, 0) of 6", full.word(6, 0), BAD);
        full.hush(5);
        due("word(5, 0) of 5", full.word(5, 0), BAD);
    }
}
