/** Promises 20 to 23: aim, words, spread, block. */
public final class TellWhomTest {
    private static final Check check = new Check();

    public static void main(String[] args) {
        aim();
        words();
        wordsByTwo();
        wordsByHeading();
        aimsAreCells();
        spread();
        block();
        check.finish();
    }

    private static AimTunnel withOneUp() {
        AimTunnel x = Check.told("plain 5 5;plain 0 77;");
        x.dig(1);
        return x;
    }

    private static void aim() {
        aims("plain 0 77;", 20, 9, 20, 2);
        aims("plain 0 77;", 20, 2, 20, 2);
        aims("plain 0 77;", 20, 1, -4, -4);
        aims("plain 0 77;", 0, 0, 0, 0);
        aims("plain 0 77;", 1, 40, 1, 1);
        aims("plain 0 77;", 11, 40, 11, 2);
        aims("plain 0 77;", 77, 14, 77, 14);
        aims("plain 0 77;", 77, 13, -4, -4);
        aims("guard 0 77;", 3, 40, 0, 3);
        aims("lover 11 13;", 13, 5, 12, 2);
        aims("lover 0 0;plain 20 20;", 20, 5, 0, 2);
        // A cynic goes east for an aim in the north.
        aims("cynic 0 0;", 10, 5, 1, 1);
        aims("plain 0 77;rock 10;", 10, 40, -4, -4);
        aims("plain 0 77;word 0 0 7;", 10, 40, -4, -4);
        aims("guard 0 0;rock 10;rock 26;faith 0 40;", 65, 40, 0, 40);
        aims("guard 0 0;rock 10;rock 26;faith 0 40;", 65, 39, -4, -4);
        AimTunnel x = withOneUp();
        check.due("aim of one who is up", x.aim(0, 5, 9, 0), -2);
        int[][] bad = {{0, 8, 9, 0}, {0, 5, 41, 0}, {0, 5, -1, 0}, {0, 5, 9, 2}, {0, 5, 9, -1}, {2, 5, 9, 0}, {-1, 5, 9, 0}};
        for (int[] b : bad) {
            check.due("aim(" + b[0] + ", " + b[1] + ", " + b[2] + ", " + b[3] + ")", x.aim(b[0], b[1], b[2], b[3]), -1);
        }
        x.aim(1, 20, 40, 0);
        check.due("his aim stays", x.digger(1, 2), 77);
    }

    private static void aims(String text, int cell, int n, int aim, int feet) {
        check.due(text + " aim(0, " + cell + ", " + n + ", 0)", Check.told(text).aim(0, cell, n, 0), aim);
        check.due(text + " aim(0, " + cell + ", " + n + ", 1)", Check.told(text).aim(0, cell, n, 1), feet);
    }

    private static void words() {
        needs("plain 0 77;", 70, 0);
        needs("plain 0 77;", 0, 0);
        needs("plain 0 77;", 77, 0);
        needs("plain 0 77;", 7, 1);
        needs("plain 33 77;", 0, 1);
        needs("guard 0 0;faith 0 40;", 73, 0);
        needs("guard 0 0;faith 0 40;", 72, -4);
        // By one word he is there behind 20 feet, but not ahead of that; here, behind 21.
        needs("cynic 11 1;faith 0 40;word 15 0 7;word 1 0 63;", 25, 1);
        aims("cynic 11 1;faith 0 40;word 15 0 7;word 1 0 63;", 25, 20, 12, 20);
        needs("lover 14 47;faith 0 40;word 16 0 75;word 2 0 2;", 53, 2);
        aims("lover 14 47;faith 0 40;word 16 0 75;word 2 0 2;", 53, 20, -4, -4);
        aims("lover 14 47;faith 0 40;word 16 0 75;word 2 0 2;", 53, 21, 5, 21);
        needs("plain 0 0;faith 0 0;", 1, -4);
        needs("plain 0 0;faith 0 1;", 1, 1);
        needs("plain 0 0;faith 0 1;", 2, -4);
        AimTunnel x = withOneUp();
        check.due("words of one who is up", x.words(0, 5), -2);
        check.due("words(0, 8)", x.words(0, 8), -1);
        check.due("words(2, 0)", x.words(2, 0), -1);
        check.due("words(-1, 0)", x.words(-1, 0), -1);
        x.words(1, 7);
        check.due("his aim stays", x.digger(1, 2), 77);
    }

    private static void wordsByTwo() {
        needs("plain 0 0;rock 10;", 20, 2);
        needs("plain 0 0;rock 10;rock 1;", 20, -4);
        needs("plain 20 77;rock 10;", 0, 2);
        needs("plain 1 77;rock 11;", 10, 2);
        // Only the row of y = 1 leads on, so the second word has to come behind the first foot.
        needs("plain 0 0;rock 10;rock 12;rock 13;rock 14;rock 15;rock 16;rock 17;", 20, 2);
        // A word of foot 8 undoes what was told ahead of it: only behind 9 feet another one helps.
        needs("plain 0 0;word 8 0 0;", 77, 2);
        needs("plain 0 0;word 9 0 0;", 77, -4);
        // Three feet on, three back by words, and then all 14: behind 20 feet is in time, behind 22 is not.
        needs("plain 0 0;faith 0 40;word 3 0 0;word 4 0 0;word 5 0 0;", 77, 2);
        needs("plain 0 0;faith 0 40;word 4 0 0;word 5 0 0;word 6 0 0;word 7 0 0;", 77, -4);
        // Few of the first words leave him where a second one helps.
        needs("plain 73 27;faith 0 40;word 7 0 21;word 10 0 55;word 18 0 47;", 0, 2);
        needs("lover 30 74;rock 61;rock 71;rock 62;rock 70;faith 0 40;word 10 0 56;word 20 0 47;", 75, 2);
        // The fewest feet by two words are as many as his faith.
        needs("plain 0 0;rock 10;faith 0 4;", 20, 2);
        needs("plain 0 0;rock 10;faith 0 3;", 20, -4);
        // Word 8 sends him a foot back: by 9 feet he can be 7 feet from 77, not nearer.
        needs("plain 0 0;word 8 0 0;faith 0 16;", 77, 2);
        needs("plain 0 0;word 8 0 0;faith 0 15;", 77, -4);
    }

    /** A lover who is where he wants to be goes on by his heading, so that it matters how he came there. */
    private static void wordsByHeading() {
        // He stands in 0 with heading north behind 1 foot, where the word of foot 1 takes back what he is told, and again
        // behind 5 feet, where no word does: the second word helps there alone.
        String round = "lover 0 0;word 0 0 0;word 1 0 0;word 2 0 0;word 3 0 0;word 4 0 0;";
        needs(round + "faith 0 6;", 3, 10, 2);
        needs(round + "faith 0 5;", 3, 10, -4);
        needs(round + "faith 0 6;word 5 0 0;", 3, 10, -4);
        // By some first words he comes to 2 with heading north, by others with heading west: these alone help, as he
        // then loses a foot at the edge and is in 3, not in 2, when the word of foot 4 comes.
        needs("lover 11 32;faith 0 6;word 4 0 11;word 5 0 22;word 1 0 3;", 0, 23, 2);
        needs("lover 2 20;faith 0 7;word 5 0 15;word 3 0 0;word 6 0 23;", 3, 24, 2);
    }

    /** An aim is a cell: no word makes a cynic go along the edge, for which he would have to mean what lies beyond it. */
    private static void aimsAreCells() {
        for (int faith = 1; faith <= 2; faith++) {
            aims("cynic 3 0;faith 0 " + faith + ";", 4, 40, -4, -4);
            aims("cynic 73 0;faith 0 " + faith + ";", 72, 40, -4, -4);
            needs("cynic 3 0;faith 0 " + faith + ";", 4, -4);
            needs("cynic 73 0;faith 0 " + faith + ";", 72, -4);
        }
        needs("cynic 3 0;", 4, 2);
        needs("cynic 73 0;", 72, 2);
    }

    private static void needs(String text, int heading, int cell, int words) {
        AimTunnel x = Check.told(text);
        x.alter(0, 3, heading);
        check.due(text + " with heading " + heading + " words(0, " + cell + ")", x.words(0, cell), words);
    }

    private static void needs(String text, int cell, int words) {
        check.due(text + " words(0, " + cell + ")", Check.told(text).words(0, cell), words);
    }

    private static void spread() {
        AimTunnel x = Check.told("plain 0 0;guard 0 0;lover 0 0;");
        check.due("spread(0, 0)", x.spread(0, 0), 1);
        check.due("spread(0, 1)", x.spread(0, 1), 3);
        check.due("spread(0, 2)", x.spread(0, 2), 6);
        check.due("spread(0, 40)", x.spread(0, 40), 64);
        check.due("spread(1, 9)", x.spread(1, 9), 1);
        check.due("spread(2, 9)", x.spread(2, 9), 1);
        check.due("spread(0, 41)", x.spread(0, 41), -1);
        check.due("spread(0, -1)", x.spread(0, -1), -1);
        check.due("spread(3, 0)", x.spread(3, 0), -1);
        check.due("spread(-1, 0)", x.spread(-1, 0), -1);
        check.due("his aim stays", x.digger(0, 2), 0);
        AimTunnel up = withOneUp();
        check.due("spread of one who is up", up.spread(0, 0), -2);
        check.due("bad spread of one who is up", up.spread(0, 41), -1);
    }

    private static void block() {
        blocks("plain 0 30;", 30, 10);
        blocks("plain 0 30;", 10, 10);
        blocks("plain 0 30;", 0, -4);
        blocks("plain 0 30;", 5, -4);
        blocks("plain 0 3;", 3, 1);
        blocks("plain 30 0;", 0, 0);
        blocks("plain 0 30;guard 10 0;faith 1 0;", 30, 20);
        blocks("plain 0 10;guard 10 0;faith 1 0;", 10, -4);
        blocks("plain 0 30;rock 70;rock 71;rock 72;rock 73;rock 74;rock 75;rock 76;rock 77;", 30, 10);
        blocks("guard 0 0;faith 0 40;", 73, 1);
        blocks("guard 0 0;faith 0 40;", 72, -4);
        // Who is followed can be kept away too.
        blocks("lover 30 0;plain 30 10;faith 1 1;", 20, 20);
        AimTunnel x = Check.told("plain 5 5;plain 0 3;");
        x.dig(1);
        check.due("where one is who is up", x.block(0, 5), -4);
        check.due("block(1, 3)", x.block(1, 3), 2);
        check.due("block(0, 8)", x.block(0, 8), -1);
        check.due("block(2, 0)", x.block(2, 0), -1);
        check.due("block(-1, 0)", x.block(-1, 0), -1);
        check.due("no rock has come", x.rule(1), 0);
    }

    private static void blocks(String text, int cell, int rock) {
        check.due(text + " block(0, " + cell + ")", Check.told(text).block(0, cell), rock);
    }
}
