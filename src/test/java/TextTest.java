/** Promises 1 to 9: a new object, the tape, the text and its faults, what was told. */
public final class TextTest {
    private static final Check check = new Check();

    public static void main(String[] args) {
        newObject();
        tape();
        takenTexts();
        faults();
        faultsInOrder();
        refusedTextChangesNothing();
        takenTextReplacesAll();
        whatWasTold();
        check.finish();
    }

    private static void newObject() {
        AimTunnel x = new AimTunnel();
        for (int what = 0; what <= 5; what++) {
            check.due("new rule(" + what + ")", x.rule(what), 0);
        }
        check.due("new rock(0)", x.rock(0), 0);
        check.due("new rock(77)", x.rock(77), 0);
        check.due("new fault()", x.fault(), 0);
        check.due("new torn()", x.torn(), 0);
        check.due("new digger(0, 0)", x.digger(0, 0), -1);
        check.due("new word(0, 0)", x.word(0, 0), -1);
        check.due("new count(0)", x.count(0), 0);
        check.due("new count(1)", x.count(1), 0);
        check.due("new count(2)", x.count(2), 0);
        check.due("new count(3)", x.count(3), -4);
        check.due("new count(4)", x.count(4), 0);
        check.due("new lay(3, 0, 0)", x.lay(3, 0, 0), -11);
    }

    private static void tape() {
        AimTunnel x = new AimTunnel();
        check.due("feed(-1)", x.feed(-1), -1);
        check.due("feed(128)", x.feed(128), -1);
        check.due("feed(0)", x.feed(0), 1);
        check.due("feed(127)", x.feed(127), 2);
        check.due("end(3) of 2", x.end(3), -1);
        check.due("end(-1)", x.end(-1), -1);
        check.due("end(1)", x.end(1), 2);
        check.due("end(1) again", x.end(1), 1);
        check.due("end(0)", x.end(0), 1);
        check.due("end(0) of none", x.end(0), 0);
        for (int i = 1; i <= 160; i++) {
            check.due("feed " + i, x.feed(32), i);
        }
        check.due("feed of a full tape", x.feed(32), -3);
        check.due("bad feed of a full tape", x.feed(128), -1);
        check.due("count(2)", x.count(2), 160);
        check.due("text of 160 blanks", x.text(), 0);
        check.due("count(2) behind a text", x.count(2), 0);
        // What end() cut off must not come back.
        Check.feed(x, "rock 77");
        x.end(6);
        Check.feed(x, ";");
        check.due("text of a mended tape", x.text(), 1);
        check.due("rock(7)", x.rock(7), 1);
        check.due("rock(77)", x.rock(77), 0);
    }

    private static void takenTexts() {
        taken("", 0);
        taken("   ", 0);
        taken("plain 0 0;", 1);
        taken("  plain   00   77  ;  ", 1);
        taken("plain0 0;cynic1 1;lover2 2;guard3 3;", 4);
        taken("faith 0 0;plain 0 0;", 2);
        taken("faith 00 40;plain 0 0;", 2);
        taken("word 20 1 5;plain 0 0;plain 0 0;", 3);
        taken("plain 0 10;rock 10;", 2);
        taken("rock 0;rock 1;rock 2;rock 3;rock 4;rock 5;rock 6;rock 7;", 8);
        taken("plain 0 0;word 0 0 0;word 0 0 0;word 0 0 0;word 0 0 0;word 0 0 0;word 0 0 0;", 7);
        taken("plain 0 0;plain 0 0;plain 0 0;plain 0 0;faith 3 0;faith 2 0;faith 1 0;faith 0 0;", 8);
    }

    private static void faults() {
        refused("plain 0 0\n;", 1, 9);
        refused("Plain 0 0;", 1, 0);
        refused("plain 0 0:", 1, 9);
        refused("plain 000 0;", 1, 6);
        refused("plain 0 1234567890123;", 1, 8);
        refused("`", 1, 0);
        refused("{", 1, 0);
        refused("/", 1, 0);
        refused("faith 0 -1;", 1, 8);
        refused("100", 1, 0);
        refused("plane 0 0;", 2, 0);
        refused("plainx 0 0;", 2, 0);
        refused("plai 0 0;", 2, 0);
        refused("xlain 0 0;", 2, 0);
        refused("zord 0 0 0;", 2, 0);
        refused("plain a", 2, 6);
        refused("plain z", 2, 6);
        refused("plain 0 0; wor 0 0 0;", 2, 11);
        refused(";", 2, 0);
        refused(" 7;", 2, 1);
        refused("plain 0 0;;", 2, 10);
        refused("plain ; 0;", 2, 6);
        refused("plain 0 0 0;", 2, 10);
        refused("plain 0 x;", 2, 8);
        refused("rock rock;", 2, 5);
        refused("rock 0 0;", 2, 7);
        refused("faith 0;", 2, 7);
        refused("word 0 0;", 2, 8);
        refused("plain 0 0", 2, 9);
        refused("plain 0 0  ", 2, 11);
        refused("plain", 2, 5);
        refused("word 0 0 ", 2, 9);
        refused("plain 8 0;", 3, 6);
        refused("plain 80 0;", 3, 6);
        refused("plain 0 18;", 3, 8);
        refused("plain 0 99;", 3, 8);
        refused("rock 78;", 3, 5);
        refused("faith 4 0;", 3, 6);
        refused("faith 0 41;", 3, 8);
        refused("word 21 0 0;", 3, 5);
        refused("word 20 4 0;", 3, 8);
        refused("word 20 3 8;", 3, 10);
        refused("rock 5;rock 05;", 4, 12);
        refused("faith 1 2;faith 1 3;", 4, 16);
        refused("faith 1 2;faith 2 2;faith 1 3;", 4, 26);
        refused("plain 0 0;plain 0 0;plain 0 0;plain 0 0;guard 0 0;", 5, 40);
        refused("rock 0;rock 1;rock 2;rock 3;rock 4;rock 5;rock 6;rock 7;rock 10;", 5, 56);
        refused("word 0 0 0;word 0 0 0;word 0 0 0;word 0 0 0;word 0 0 0;word 0 0 0; word 0 0 0;", 5, 67);
        refused("faith 0 1;", 6, 10);
        refused("plain 0 0;faith 1 1; ", 6, 21);
        refused("faith 1 1;plain 0 0;faith 0 1;", 6, 30);
        refused("plain 0 0;word 1 1 1;", 6, 21);
        refused("word 1 0 1;", 6, 11);
        refused("plain 0 0;rock 0;", 7, 17);
        refused("rock 0; guard 0 1;", 7, 18);
        refused("plain 1 0;lover 55 1;rock 55;", 7, 29);
    }

    /** Where two faults could be met, the first one read is told. */
    private static void faultsInOrder() {
        refused("plain 80 000;", 3, 6);
        refused("plain 000 80;", 1, 6);
        refused("rock 1;rock 1", 4, 12);
        refused("faith 0 1;faith 0 99;", 4, 16);
        refused("plain 0 0;plain 0 0;plain 0 0;plain 0 0;plain 9 000", 5, 40);
        refused("rock 0;rock 1;rock 2;rock 3;rock 4;rock 5;rock 6;rock 7;rock 0;", 5, 56);
        refused("plain 0 0;rock 0;faith 1 1;", 6, 27);
        refused("faith 3 1;rock 8;", 3, 15);
        refused("plain 0 0;rock 0;#", 1, 17);
        refused("rock 1 !", 1, 7);
        refused("abc !", 2, 0);
        // What is no cell or no digger is not cell 0 or digger 0, which are told already.
        refused("rock 0;rock 8;", 3, 12);
        refused("rock 0;rock x;", 2, 12);
        refused("rock 0;rock 000;", 1, 12);
        refused("rock 0;rock", 2, 11);
        refused("faith 0 1;faith 4 1;", 3, 16);
        refused("faith 0 1;faith ;", 2, 16);
        refused("faith 0 1;faith 000 1;", 1, 16);
        refused("faith 0 1;faith", 2, 15);
    }

    private static void refusedTextChangesNothing() {
        AimTunnel x = Check.told("plain 11 13;rock 5;word 3 0 4;");
        x.see(0, 1, 12);
        x.keep(1);
        x.dig(1);
        Check.feed(x, "cynic 0 0;rock 6;rock 8;");
        check.due("text()", x.text(), -32);
        check.due("fault()", x.fault(), 3);
        check.due("digger(0, 0)", x.digger(0, 0), 0);
        check.due("digger(0, 1)", x.digger(0, 1), 12);
        check.due("rock(5)", x.rock(5), 1);
        check.due("rock(6)", x.rock(6), 0);
        check.due("rule(2)", x.rule(2), 1);
        check.due("rule(3)", x.rule(3), 1);
        check.due("count(0)", x.count(0), 1);
        check.due("count(1)", x.count(1), 1);
        check.due("count(2)", x.count(2), 0);
    }

    private static void takenTextReplacesAll() {
        AimTunnel x = Check.told("plain 11 11;rock 5;word 3 0 4;faith 0 3;");
        x.see(0, 1, 12);
        x.keep(0);
        x.keep(1);
        x.sheet(0, 2, 5);
        x.dig(2);
        x.alter(0, 3, 3);
        Check.feed(x, "rock 8;");
        x.text();
        check.due("fault()", x.fault(), 3);
        Check.feed(x, "guard 22 33;");
        check.due("text()", x.text(), 1);
        check.due("fault() behind a taken text", x.fault(), 0);
        check.due("digger(0, 0)", x.digger(0, 0), 3);
        check.due("digger(0, 1)", x.digger(0, 1), 22);
        check.due("digger(0, 2)", x.digger(0, 2), 33);
        check.due("digger(0, 3)", x.digger(0, 3), 0);
        check.due("digger(0, 4)", x.digger(0, 4), 20);
        check.due("digger(0, 5)", x.digger(0, 5), 0);
        for (int what = 1; what <= 5; what++) {
            check.due("rule(" + what + ")", x.rule(what), 0);
        }
        check.due("rock(5)", x.rock(5), 0);
        check.due("count(0)", x.count(0), 0);
        check.due("count(1)", x.count(1), 0);
        check.due("back(0)", x.back(0), -2);
        check.due("back(1)", x.back(1), -2);
        check.due("count(3)", x.count(3), 5);
        check.due("text() of nothing", x.text(), 0);
        check.due("rule(0)", x.rule(0), 0);
    }

    private static void whatWasTold() {
        AimTunnel x = Check.told("plain 1 2;cynic 13 14;lover 25 26;guard 37 40;rock 70;rock 7;"
                + "faith 1 0;faith 2 40;word 20 3 71;word 0 0 5;");
        int[][] due = {{0, 1, 2, 0, 20, 0}, {1, 13, 14, 0, 0, 0}, {2, 25, 26, 0, 40, 0}, {3, 37, 40, 0, 20, 0}};
        for (int d = 0; d < 4; d++) {
            for (int what = 0; what <= 5; what++) {
                check.due("digger(" + d + ", " + what + ")", x.digger(d, what), due[d][what]);
            }
        }
        check.due("digger(4, 0)", x.digger(4, 0), -1);
        check.due("digger(-1, 0)", x.digger(-1, 0), -1);
        check.due("digger(0, 6)", x.digger(0, 6), -1);
        check.due("digger(0, -1)", x.digger(0, -1), -1);
        int[] rules = {4, 2, 2, 0, 0, 2};
        for (int what = 0; what <= 5; what++) {
            check.due("rule(" + what + ")", x.rule(what), rules[what]);
        }
        check.due("rule(-1)", x.rule(-1), -1);
        check.due("rule(6)", x.rule(6), -1);
        for (int number = -12; number <= 100; number++) {
            boolean cell = number >= 0 && number <= 77 && number % 10 <= 7;
            check.due("rock(" + number + ")", x.rock(number), !cell ? -1 : number == 70 || number == 7 ? 1 : 0);
        }
        int[][] words = {{20, 3, 71}, {0, 0, 5}};
        for (int i = 0; i < 2; i++) {
            for (int what = 0; what <= 2; what++) {
                check.due("word(" + i + ", " + what + ")", x.word(i, what), words[i][what]);
            }
        }
        check.due("word(2, 0)", x.word(2, 0), -1);
        check.due("word(-1, 0)", x.word(-1, 0), -1);
        check.due("word(0, 3)", x.word(0, 3), -1);
        check.due("word(0, -1)", x.word(0, -1), -1);
        check.due("rule(5) of two", Check.told("plain 0 0;guard 0 0;lover 0 0;faith 2 0;faith 0 0;").rule(5), 5);
        AimTunnel up = Check.told("plain 0 7;plain 5 5;faith 1 1;");
        up.dig(1);
        check.due("rule(4)", up.rule(4), 2);
        check.due("rule(5)", up.rule(5), 2);
        check.due("rule(3)", up.rule(3), 1);
        check.due("digger(1, 5)", up.digger(1, 5), 1);
    }

    private static void taken(String text, int lines) {
        AimTunnel x = new AimTunnel();
        Check.feed(x, text);
        check.due("text of '" + text + "'", x.text(), lines);
        check.due("fault of '" + text + "'", x.fault(), 0);
    }

    private static void refused(String text, int fault, int place) {
        AimTunnel x = new AimTunnel();
        Check.feed(x, text);
        check.due("text of '" + text + "'", x.text(), -10 - place);
        check.due("fault of '" + text + "'", x.fault(), fault);
        check.due("rule(0) behind '" + text + "'", x.rule(0), 0);
    }
}
