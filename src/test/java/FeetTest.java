/** Promises 14 to 19: dig, runs, ahead, reaches, meet, ring; and what a foot does. */
public final class FeetTest {
    private static final Check check = new Check();
    /** A guard who goes inward and comes to cell 65 behind 40 feet, and twice to no cell with one heading. */
    private static final String SPIRAL = "guard 0 0;rock 10;rock 26;faith 0 40;";

    public static void main(String[] args) {
        plainOnes();
        faithByFeet();
        cynics();
        lovers();
        guards();
        wordsByFeet();
        dig();
        runs();
        ahead();
        reaches();
        meet();
        ring();
        check.finish();
    }

    private static void path(String text, int d, int... cells) {
        for (int n = 0; n < cells.length; n++) {
            check.due(text + " ahead(" + d + ", " + n + ")", Check.told(text).ahead(d, n), cells[n]);
            AimTunnel x = Check.told(text);
            x.dig(n);
            check.due(text + " digger(" + d + ", 1) behind " + n, x.digger(d, 1), cells[n]);
        }
    }

    private static void plainOnes() {
        path("plain 0 22;", 0, 0, 10, 20, 21, 22, 22, 22);
        path("plain 55 43;", 0, 55, 45, 44, 43, 43);
        path("plain 0 20;rock 10;", 0, 0, 0, 0, 0);
        path("plain 0 20;rock 20;", 0, 0, 10, 10, 10);
        AimTunnel x = Check.told("plain 0 22;rock 12;");
        x.dig(4);
        check.due("not up on the way", x.rule(4), 0);
        check.due("up", x.dig(1), 1);
        check.due("faith when up", x.digger(0, 4), 15);
        check.due("heading when up", x.digger(0, 3), 0);
        x.dig(9);
        check.due("faith of one who is up stays", x.digger(0, 4), 15);
        AimTunnel y = Check.told("plain 0 20;rock 10;");
        y.dig(1);
        check.due("heading at a rock", y.digger(0, 3), 2);
        check.due("faith at a rock", y.digger(0, 4), 19);
    }

    private static void faithByFeet() {
        path("plain 0 70;faith 0 3;", 0, 0, 10, 20, 30, 30, 30);
        path("guard 0 70;faith 0 0;", 0, 0, 0, 0);
        AimTunnel x = Check.told("plain 0 70;faith 0 7;");
        check.due("he comes without faith to be up", x.runs(20, 0), 0);
        check.due("but comes", x.reaches(0, 70), 7);
        AimTunnel y = Check.told("plain 0 70;faith 0 8;");
        check.due("he comes with faith 1", y.runs(8, 0), 1);
        check.due("and has none then", y.runs(8, 1), 1);
        check.due("one foot ahead of it", y.runs(7, 1), 0);
    }

    private static void cynics() {
        path("cynic 30 33;", 0, 30, 40, 41);
        path("cynic 11 13;", 0, 11, 21, 22, 23, 24, 25, 26, 27, 27, 27);
        AimTunnel x = Check.told("cynic 0 1;rock 10;");
        x.dig(1);
        check.due("a cynic at a rock stays", x.digger(0, 1), 0);
        check.due("and turns once more", x.digger(0, 3), 2);
        AimTunnel y = Check.told("cynic 33 33;");
        check.due("a cynic comes up", y.dig(1), 1);
        check.due("and keeps his heading", y.digger(0, 3), 0);
        AimTunnel z = Check.told("cynic 44 4;");
        z.dig(1);
        check.due("west, and to the right", z.digger(0, 3), 0);
    }

    private static void lovers() {
        path("lover 11 13;", 0, 11, 12, 13, 14, 13, 12, 13);
        path("lover 0 0;lover 30 30;", 0, 0, 10, 20, 10, 0);
        path("lover 0 0;lover 30 30;", 1, 30, 20, 10, 0, 0);
        path("lover 44 0;plain 70 70;", 0, 44, 54, 64, 74, 73);
        // The one he follows is last, and has not gone yet when he looks; behind the last is the first, who has.
        path("guard 4 0;lover 4 0;", 1, 4, 5, 6);
        path("lover 4 0;guard 4 0;", 0, 4, 5, 6);
        path("lover 4 0;guard 3 0;faith 1 1;", 0, 4, 3, 4);
        AimTunnel x = Check.told("lover 5 5;");
        check.due("a lover never comes up", x.dig(20), 0);
    }

    private static void guards() {
        path("guard 77 0;", 0, 77, 77, 77, 76, 75);
        path("guard 5 5;", 0, 5, 6, 7, 7, 17);
        for (int side = 0; side < 4; side++) {
            int[] from = {37, 70, 30, 0};
            AimTunnel end = Check.told("guard " + from[side] + " 0;");
            end.alter(0, 3, side);
            end.dig(1);
            check.due("no cell to the side of " + side, end.digger(0, 1), from[side]);
            check.due("so he turns", end.digger(0, 3), (side + 1) % 4);
        }
        AimTunnel x = Check.told("guard 5 5;");
        check.due("a guard never comes up", x.dig(20), 0);
        AimTunnel y = Check.told("guard 70 0;");
        y.alter(0, 3, 2);
        y.dig(1);
        check.due("a guard turns at the end of the ground", y.digger(0, 3), 3);
        y.dig(8);
        check.due("and at its other end", y.digger(0, 3), 0);
        check.due("where he is", y.digger(0, 1), 0);
    }

    private static void wordsByFeet() {
        path("plain 0 70;word 2 0 27;", 0, 0, 10, 20, 21, 22);
        path("plain 0 0;word 0 0 2;", 0, 0, 1, 2, 2);
        path("plain 0 0;word 0 0 2;word 0 0 50;", 0, 0, 10, 20);
        path("plain 0 0;word 0 0 50;word 0 0 2;", 0, 0, 1, 2);
        AimTunnel up = Check.told("plain 0 0;word 1 0 5;");
        up.dig(2);
        check.due("a word does not come to one who is up", up.digger(0, 2), 0);
        AimTunnel faithless = Check.told("plain 0 0;faith 0 0;word 0 0 5;");
        faithless.dig(1);
        check.due("a word comes to one without faith", faithless.digger(0, 2), 5);
        AimTunnel late = Check.told("guard 0 0;word 20 0 5;");
        late.dig(20);
        check.due("not yet", late.digger(0, 2), 0);
        late.dig(1);
        check.due("at foot 20", late.digger(0, 2), 5);
        AimTunnel past = Check.told("guard 0 0;");
        past.dig(3);
        past.tell(2, 0, 5);
        past.dig(20);
        check.due("a word of a foot that is past", past.digger(0, 2), 0);
    }

    private static void dig() {
        AimTunnel x = Check.told("plain 0 1;guard 0 0;plain 5 5;");
        check.due("dig(-1)", x.dig(-1), -1);
        check.due("dig(21)", x.dig(21), -1);
        check.due("dig(0)", x.dig(0), 0);
        check.due("dig(1)", x.dig(1), 4);
        check.due("dig(1)", x.dig(1), 5);
        check.due("rule(3)", x.rule(3), 2);
        for (int i = 0; i < 49; i++) {
            check.due("dig(20)", x.dig(20), 5);
        }
        check.due("rule(3)", x.rule(3), 982);
        check.due("dig(18) of 982", x.dig(18), -3);
        check.due("rule(3)", x.rule(3), 982);
        check.due("dig(17) of 982", x.dig(17), 5);
        check.due("rule(3)", x.rule(3), 999);
        check.due("dig(1) of 999", x.dig(1), -3);
        check.due("dig(0) of 999", x.dig(0), 5);
        check.due("dig(21) of 999", x.dig(21), -1);
        x.alter(1, 4, 5);
        int at = x.digger(1, 1);
        check.holds("by feet it goes on behind 999", x.ahead(1, 3) != at);
        check.due("dig of nobody", new AimTunnel().dig(20), 0);
    }

    private static void runs() {
        AimTunnel x = Check.told("guard 0 0;guard 0 0;");
        check.due("runs(0, 2)", x.runs(0, 2), 0);
        check.due("runs(0, 3)", x.runs(0, 3), -4);
        check.due("runs(5, 2)", x.runs(5, 2), 5);
        check.due("runs(40, 2)", x.runs(40, 2), 40);
        check.due("runs(5, 3)", x.runs(5, 3), 1);
        check.due("three meet thrice a foot", Check.told("guard 0 0;guard 0 0;guard 0 0;").runs(5, 2), 15);
        check.due("four meet six times", Check.told("guard 0 0;guard 0 0;guard 0 0;guard 0 0;").runs(1, 2), 6);
        AimTunnel up = Check.told("plain 5 5;plain 5 5;");
        check.due("who is up meets nobody", up.runs(9, 2), 0);
        check.due("nor first", up.runs(9, 3), -4);
        AimTunnel one = Check.told("plain 5 5;guard 4 4;faith 1 1;");
        check.due("nor where one is up", one.runs(9, 2), 0);
        AimTunnel late = Check.told("guard 0 0;guard 3 0;faith 1 0;");
        check.due("runs(2, 3)", late.runs(2, 3), -4);
        check.due("runs(3, 3)", late.runs(3, 3), 3);
        check.due("runs(9, 3)", late.runs(9, 3), 3);
        check.due("runs(9, 2)", late.runs(9, 2), 1);
        AimTunnel y = Check.told("plain 0 1;plain 0 3;plain 0 77;faith 2 1;");
        int[] ups = {0, 0, 1, 1, 3};
        int[] lost = {0, 4, 4, 4, 4};
        for (int n = 0; n < ups.length; n++) {
            check.due("runs(" + n + ", 0)", y.runs(n, 0), ups[n]);
            check.due("runs(" + n + ", 1)", y.runs(n, 1), lost[n]);
        }
        int[][] bad = {{-1, 0}, {41, 0}, {0, -1}, {0, 4}};
        for (int[] b : bad) {
            check.due("runs(" + b[0] + ", " + b[1] + ")", y.runs(b[0], b[1]), -1);
        }
        check.due("nothing has been dug", y.rule(3), 0);
        check.due("nobody has gone", y.digger(0, 1), 0);
        check.due("nobody has lost faith", y.count(4), 41);
    }

    private static void ahead() {
        AimTunnel x = Check.told(SPIRAL);
        check.due("ahead(0, 40)", x.ahead(0, 40), 65);
        check.due("ahead(0, 39)", x.ahead(0, 39), 55);
        check.due("ahead(0, 41)", x.ahead(0, 41), -1);
        check.due("ahead(0, -1)", x.ahead(0, -1), -1);
        check.due("ahead(1, 0)", x.ahead(1, 0), -1);
        check.due("ahead(-1, 0)", x.ahead(-1, 0), -1);
        check.due("nothing has been dug", x.rule(3), 0);
    }

    private static void reaches() {
        AimTunnel x = Check.told(SPIRAL);
        check.due("reaches(0, 0)", x.reaches(0, 0), 0);
        check.due("reaches(0, 7)", x.reaches(0, 7), 7);
        check.due("reaches(0, 17)", x.reaches(0, 17), 9);
        check.due("reaches(0, 65)", x.reaches(0, 65), 40);
        check.due("reaches(0, 10)", x.reaches(0, 10), -4);
        check.due("reaches(0, 8)", x.reaches(0, 8), -1);
        check.due("reaches(0, -1)", x.reaches(0, -1), -1);
        check.due("reaches(1, 0)", x.reaches(1, 0), -1);
        check.due("reaches(-1, 0)", x.reaches(-1, 0), -1);
        x.alter(0, 3, 3);
        check.due("a foot later it is too late", x.reaches(0, 65), -4);
        AimTunnel tired = Check.told("guard 0 0;");
        check.due("reaches(0, 73)", tired.reaches(0, 73), 20);
        check.due("reaches(0, 72)", tired.reaches(0, 72), -4);
        check.due("a lover to his guard", Check.told("lover 44 0;guard 70 0;").reaches(0, 73), 4);
    }

    private static void meet() {
        check.due("they are together", Check.told("guard 0 0;guard 0 0;").meet(0, 1), 0);
        check.due("they are, until up", Check.told("plain 5 5;plain 5 5;").meet(1, 0), 0);
        AimTunnel up = Check.told("plain 5 5;plain 5 5;");
        up.dig(1);
        check.due("they are up", up.meet(0, 1), -4);
        check.due("one of them is up", Check.told("plain 5 5;guard 4 4;faith 1 1;").meet(0, 1), -4);
        check.due("lovers", Check.told("lover 0 0;lover 30 30;").meet(0, 1), 4);
        check.due("lovers, turned", Check.told("lover 0 0;lover 30 30;").meet(1, 0), 4);
        AimTunnel late = Check.told(SPIRAL + "plain 65 65;faith 1 0;");
        check.due("behind 40 feet", late.meet(0, 1), 40);
        late.alter(0, 3, 3);
        check.due("a foot later it is too late", late.meet(0, 1), -4);
        check.due("meet(0, 0)", late.meet(0, 0), -1);
        check.due("meet(0, 2)", late.meet(0, 2), -1);
        check.due("meet(-1, 0)", late.meet(-1, 0), -1);
    }

    private static void ring() {
        rings("", 1, 0);
        rings("plain 5 5;", 2, 1);
        rings("guard 0 0;", 21, 20);
        rings("guard 0 0;faith 0 40;", 32, 0);
        rings("guard 1 0;rock 0;faith 0 40;", 38, 8);
        rings("lover 11 13;", 6, 2);
        rings("cynic 11 13;", 9, 8);
        // He who comes up behind 8 feet ends what is new; the guard's round is of 32.
        rings("plain 0 70;guard 0 0;faith 0 40;faith 1 40;", 40, 8);
        rings("plain 0 71;guard 0 0;faith 0 40;faith 1 40;", -4, -4);
        rings(SPIRAL, -4, -4);
        AimTunnel x = Check.told("guard 0 0;");
        check.due("ring(-1)", x.ring(-1), -1);
        check.due("ring(2)", x.ring(2), -1);
    }

    private static void rings(String text, int feet, int fewer) {
        check.due(text + " ring(0)", Check.told(text).ring(0), feet);
        check.due(text + " ring(1)", Check.told(text).ring(1), fewer);
    }
}
