/** The boundary sentences of promises 20 to 23. */
public final class BoundsTellWhomTest extends Bounds {
    /** A guard who comes to cell 65 behind 40 feet. */
    private static final String SPIRAL = "guard 0 0;rock 10;rock 26;faith 0 40;";

    public static void main(String[] args) throws ReflectiveOperationException {
        run(BoundsTellWhomTest.class);
    }

    // ---- promise 20

    private static void aims(String text, int cell, int n, int aim, int feet) {
        AimTunnel x = Check.told(text);
        due("'" + text + "' aim(0, " + cell + ", " + n + ", 0)", x.aim(0, cell, n, 0), aim);
        due("'" + text + "' aim(0, " + cell + ", " + n + ", 1)", x.aim(0, cell, n, 1), feet);
    }

    @Says(promise = 20, value = "The AIM that a DIGGER is to have now so that he is in a CELL behind n FEET (0 to 40) at the latest,")
    static void p20_aim_behind_n_feet_at_the_latest() {
        aims("plain 0 33;", 0, 0, 0, 0);
        aims("plain 0 33;", 1, 0, NONE, NONE);
        aims("plain 0 33;", 1, 1, 1, 1);
        aims("plain 0 33;", 77, 13, NONE, NONE);
        aims("plain 0 33;", 77, 14, 77, 14);
        aims("plain 0 33;", 77, 40, 77, 14);
        aims(SPIRAL, 55, 38, NONE, NONE);
        aims(SPIRAL, 55, 39, 0, 39);
        aims(SPIRAL, 65, 39, NONE, NONE);
        aims(SPIRAL, 65, 40, 0, 40);
        // As many feet as his faith.
        aims("plain 0 33;faith 0 3;", 30, 40, 30, 3);
        aims("plain 0 33;faith 0 2;", 30, 40, NONE, NONE);
        // A word takes his aim from him.
        aims("plain 0 33;word 1 0 0;", 10, 40, 10, 1);
        aims("plain 0 33;word 1 0 0;", 20, 40, NONE, NONE);
        unchanged(Bounds::rich, "aim(1, 66, 40, 0)", x -> x.aim(1, 66, 40, 0));
        unchanged(Bounds::rich, "aim(1, 66, 40, 1)", x -> x.aim(1, 66, 40, 1));
    }

    @Says(promise = 20, value = "soonest, of several the first by number: that AIM (what 0), behind how many FEET (1).")
    static void p20_aim_soonest_then_first_by_number() {
        // Where he is he is at once, by any aim: the first is 0.
        aims("plain 55 33;", 55, 40, 0, 0);
        aims("guard 33 7;", 37, 40, 0, 4);
        // To 34 lead 34 to 37 alone.
        aims("plain 33 0;", 34, 40, 34, 1);
        aims("plain 33 0;", 35, 40, 35, 2);
        // To 43 lead all that are east of 33, to 23 all that are west.
        aims("plain 33 0;", 43, 40, 40, 1);
        aims("plain 33 77;", 23, 40, 0, 1);
        // The word leads him to 36 by any aim, by 0 behind 13 feet; by 36 he is there soonest, by 37 no sooner.
        due("by aim 0", Check.told("plain 33 0;word 5 0 36;").reaches(0, 36), 13);
        aims("plain 33 0;word 5 0 36;", 36, 40, 36, 3);
        aims("plain 33 0;word 5 0 36;", 36, 3, 36, 3);
        aims("plain 33 0;word 5 0 36;", 36, 2, NONE, NONE);
        // A cynic goes 1 to the right of what he wants.
        aims("cynic 33 0;", 43, 40, 34, 1);
        // A lover goes on by his heading, so that 34 leads him to 35 as soon as 35 does.
        aims("lover 33 0;", 35, 40, 34, 2);
    }

    @Says(promise = 20, value = "BAD;")
    static void p20_aim_BAD() {
        eachRefused(Bounds::rich, "aim d", BAD, (x, v) -> x.aim(v, 0, 0, 0), LEAST, -1, 4, MOST);
        eachRefused(Bounds::rich, "aim cell", BAD, (x, v) -> x.aim(1, v, 0, 0), NO_CELLS);
        eachRefused(Bounds::rich, "aim n", BAD, (x, v) -> x.aim(1, 0, v, 0), LEAST, -1, 41, MOST);
        eachRefused(Bounds::rich, "aim what", BAD, (x, v) -> x.aim(1, 0, 0, v), LEAST, -1, 2, MOST);
        eachRefused(AimTunnel::new, "aim of nobody", BAD, (x, v) -> x.aim(v, 0, 0, 0), -1, 0);
        due("aim(1, 0, 0, 0) of one", Check.told("guard 0 0;").aim(1, 0, 0, 0), BAD);
        for (int cell : new int[] {0, 7, 70, 77}) {
            holds("aim(1, " + cell + ", 40, 0) is of a cell", rich().aim(1, cell, 40, 0) != BAD);
        }
    }

    @Says(promise = 20, value = "STATE: he is UP;")
    static void p20_aim_STATE_he_is_up() {
        refused(Bounds::rich, "aim(0, 5, 40, 0)", STATE, x -> x.aim(0, 5, 40, 0));
        refused(Bounds::rich, "aim(0, 5, 0, 1)", STATE, x -> x.aim(0, 5, 0, 1));
        AimTunnel x = Check.told("plain 5 5;");
        due("not up yet", x.aim(0, 5, 0, 0), 0);
        x.dig(1);
        due("up", x.aim(0, 5, 0, 0), STATE);
        due("without faith", rich().aim(3, 71, 40, 0), 0);
    }

    @Says(promise = 20, value = "NONE: by none.")
    static void p20_aim_NONE() {
        aims("plain 0 33;", 10, 0, NONE, NONE);
        aims("plain 0 33;rock 10;", 10, 40, NONE, NONE);
        aims("plain 0 33;rock 10;rock 1;", 77, 40, NONE, NONE);
        aims("plain 0 33;faith 0 0;", 1, 40, NONE, NONE);
        refused(Bounds::rich, "aim(3, 72, 40, 0)", NONE, x -> x.aim(3, 72, 40, 0));
        refused(Bounds::rich, "aim(3, 72, 40, 1)", NONE, x -> x.aim(3, 72, 40, 1));
    }

    // ---- promise 21

    private static void needs(String text, int cell, int words) {
        due("'" + text + "' words(0, " + cell + ")", Check.told(text).words(0, cell), words);
    }

    @Says(promise = 21, value = "The fewest changes of AIM by which a DIGGER is in a CELL behind 20 FEET or fewer: 0: none;")
    static void p21_words_0() {
        needs("plain 0 77;", 0, 0);
        needs("plain 0 77;", 10, 0);
        needs("plain 0 77;", 77, 0);
        // Behind 20 feet, and behind 21.
        needs("guard 0 0;faith 0 40;", 73, 0);
        needs("guard 0 0;faith 0 40;", 72, NONE);
        needs("guard 0 0;faith 0 20;", 73, 0);
        needs("guard 0 0;faith 0 19;", 73, NONE);
        // From now on, whatever was asked ahead of it.
        AimTunnel asked = Check.told("plain 0 77;");
        asked.ahead(0, 7);
        due("words(0, 10)", asked.words(0, 10), 0);
        unchanged(Bounds::rich, "words(1, 66)", x -> x.words(1, 66));
        unchanged(Bounds::rich, "words(2, 66)", x -> x.words(2, 66));
    }

    @Says(promise = 21, value = "1: one now;")
    static void p21_words_1() {
        needs("plain 0 77;", 1, 1);
        needs("plain 0 0;", 77, 1);
        needs("plain 0 0;faith 0 14;", 77, 1);
        needs("plain 0 0;faith 0 13;", 77, NONE);
        // By one word behind 20 feet; and where it would be 21, by two.
        needs("cynic 11 1;faith 0 40;word 15 0 7;word 1 0 63;", 25, 1);
        due("its feet", Check.told("cynic 11 1;faith 0 40;word 15 0 7;word 1 0 63;").aim(0, 25, 40, 1), 20);
        needs("lover 14 47;faith 0 40;word 16 0 75;word 2 0 2;", 53, 2);
        due("its feet", Check.told("lover 14 47;faith 0 40;word 16 0 75;word 2 0 2;").aim(0, 53, 40, 1), 21);
        // By the aim 0, by the aim 77 alone.
        needs("plain 11 77;", 0, 1);
        needs("plain 66 0;", 77, 1);
        // A word of foot 0 takes it back at once.
        needs("plain 0 0;word 0 0 0;", 1, NONE);
        needs("plain 0 0;word 1 0 0;", 1, 1);
    }

    @Says(promise = 21, value = "2: one now, one behind 1 to 9 FEET, ahead of the next one.")
    static void p21_words_2() {
        needs("plain 0 0;rock 10;", 20, 2);
        // A word of foot 7, 8 or 9 undoes what was told: it must be told again behind 8, 9 or 10 feet, and 10 are too many.
        needs("plain 0 0;word 7 0 0;", 77, 2);
        needs("plain 0 0;word 8 0 0;", 77, 2);
        needs("plain 0 0;word 9 0 0;", 77, NONE);
        // Behind 1 foot is enough here, as it has to be: any other first foot leads away for good.
        needs("plain 0 0;rock 10;rock 2;faith 0 3;", 21, 2);
        needs("plain 0 0;rock 10;rock 2;faith 0 2;", 21, NONE);
        // The first word can be 0 alone, or 77 alone; the second likewise.
        needs("plain 1 77;rock 11;rock 12;rock 13;rock 14;rock 15;rock 16;rock 17;", 20, 2);
        needs("plain 76 0;rock 60;rock 61;rock 62;rock 63;rock 64;rock 65;rock 66;", 57, 2);
        needs("plain 20 77;rock 10;", 0, 2);
        needs("plain 57 0;rock 67;", 77, 2);
        // Asked again it is the same, though few of the first words leave him where a second one helps.
        AimTunnel again = Check.told("plain 46 32;faith 0 40;rock 14;rock 27;rock 71;rock 51;word 3 0 45;word 11 0 52;word 3 0 46;");
        due("words(0, 12)", again.words(0, 12), 2);
        due("words(0, 12) again", again.words(0, 12), 2);
        needs("lover 55 15;faith 0 20;rock 70;rock 24;rock 5;rock 25;word 6 0 44;word 12 0 56;word 2 0 40;", 26, 2);
        // The second word is told ahead of the foot's own words, which take it back.
        needs("plain 0 0;rock 10;word 1 0 1;word 2 0 1;word 3 0 1;word 4 0 1;word 5 0 1;word 6 0 1;", 20, NONE);
        // Behind 20 feet by two words, and behind 22, which is too late.
        needs("plain 0 0;faith 0 40;word 3 0 0;word 4 0 0;word 5 0 0;", 77, 2);
        needs("plain 0 0;faith 0 40;word 4 0 0;word 5 0 0;word 6 0 0;word 7 0 0;", 77, NONE);
    }

    @Says(promise = 21, value = "BAD;")
    static void p21_words_BAD() {
        eachRefused(Bounds::rich, "words d", BAD, (x, v) -> x.words(v, 0), LEAST, -1, 4, MOST);
        eachRefused(Bounds::rich, "words cell", BAD, (x, v) -> x.words(1, v), NO_CELLS);
        eachRefused(AimTunnel::new, "words of nobody", BAD, (x, v) -> x.words(v, 0), -1, 0);
        due("words(1, 0) of one", Check.told("guard 0 0;").words(1, 0), BAD);
        for (int cell : new int[] {0, 7, 70, 77}) {
            holds("words(1, " + cell + ") is of a cell", rich().words(1, cell) != BAD);
        }
    }

    @Says(promise = 21, value = "STATE: he is UP;")
    static void p21_words_STATE_he_is_up() {
        refused(Bounds::rich, "words(0, 5)", STATE, x -> x.words(0, 5));
        AimTunnel x = Check.told("plain 5 5;");
        due("not up yet", x.words(0, 5), 0);
        x.dig(1);
        due("up", x.words(0, 5), STATE);
        due("without faith", rich().words(3, 71), 0);
    }

    @Says(promise = 21, value = "NONE: by no two.")
    static void p21_words_NONE() {
        needs("plain 0 0;rock 10;rock 1;", 20, NONE);
        needs("plain 0 0;rock 33;", 33, NONE);
        needs("plain 0 0;faith 0 0;", 1, NONE);
        // Three would do: to 3, to 50, to 40.
        needs("plain 0 0;rock 10;rock 12;rock 30;rock 31;rock 22;rock 41;", 40, NONE);
        refused(Bounds::rich, "words(3, 72)", NONE, x -> x.words(3, 72));
    }

    // ---- promise 22

    @Says(promise = 22, value = "CELLS (as many) in which a DIGGER can be behind n FEET (0 to 40) by some AIM now.")
    static void p22_spread_0_to_40() {
        AimTunnel x = Check.told("plain 0 0;guard 0 0;lover 0 0;plain 33 0;");
        int[] corner = {1, 3, 6, 10, 15};
        int[] middle = {1, 5, 13, 25};
        for (int n = 0; n < corner.length; n++) {
            due("spread(0, " + n + ")", x.spread(0, n), corner[n]);
        }
        for (int n = 0; n < middle.length; n++) {
            due("spread(3, " + n + ")", x.spread(3, n), middle[n]);
        }
        due("spread(0, 13)", x.spread(0, 13), 63);
        due("spread(0, 14)", x.spread(0, 14), 64);
        due("spread(0, 40)", x.spread(0, 40), 64);
        due("spread of a guard", x.spread(1, 40), 1);
        due("spread of a lover with others", x.spread(2, 40), 1);
        due("spread of one without faith", Check.told("plain 0 0;faith 0 0;").spread(0, 40), 1);
        due("spread of one with faith 1", Check.told("plain 0 0;faith 0 1;").spread(0, 40), 3);
        due("spread behind walls", Check.told("plain 0 0;rock 10;rock 1;").spread(0, 40), 1);
        due("spread where a word undoes it", Check.told("plain 0 0;word 0 0 7;").spread(0, 40), 1);
        due("a lover's cells are those of n feet, no less", Check.told("lover 0 0;").spread(0, 0), 1);
        unchanged(Bounds::rich, "spread(1, 40)", t -> t.spread(1, 40));
    }

    @Says(promise = 22, value = "BAD;")
    static void p22_spread_BAD() {
        eachRefused(Bounds::rich, "spread d", BAD, (x, v) -> x.spread(v, 0), LEAST, -1, 4, MOST);
        eachRefused(Bounds::rich, "spread n", BAD, (x, v) -> x.spread(1, v), LEAST, -1, 41, MOST);
        eachRefused(AimTunnel::new, "spread of nobody", BAD, (x, v) -> x.spread(v, 0), -1, 0);
        due("spread(1, 0) of one", Check.told("guard 0 0;").spread(1, 0), BAD);
    }

    @Says(promise = 22, value = "STATE: he is UP.")
    static void p22_spread_STATE_he_is_up() {
        refused(Bounds::rich, "spread(0, 0)", STATE, x -> x.spread(0, 0));
        refused(Bounds::rich, "spread(0, 40)", STATE, x -> x.spread(0, 40));
        AimTunnel x = Check.told("plain 5 5;");
        due("not up yet", x.spread(0, 0), 1);
        x.dig(1);
        due("up", x.spread(0, 0), STATE);
        due("without faith", rich().spread(3, 40), 1);
    }

    // ---- promise 23

    private static void blocks(String text, int cell, int rock) {
        due("'" + text + "' block(0, " + cell + ")", Check.told(text).block(0, cell), rock);
    }

    @Says(promise = 23, value = "The CELL without ROCK, where no DIGGER is, that, were it ROCK, keeps a DIGGER from a CELL for 20 FEET, the first by number.")
    static void p23_block_the_first_by_number() {
        blocks("plain 0 30;", 30, 10);
        blocks("plain 0 30;", 10, 10);
        blocks("plain 0 2;", 2, 1);
        blocks("plain 0 2;", 1, 1);
        // 0 and 77 are cells as others are.
        blocks("plain 10 0;", 0, 0);
        blocks("plain 76 77;", 77, 77);
        // Where one is there can be no rock, up or not.
        blocks("plain 0 30;guard 10 0;faith 1 0;", 30, 20);
        blocks("plain 0 30;guard 20 0;guard 10 0;guard 30 0;faith 1 0;faith 2 0;faith 3 0;", 30, NONE);
        blocks("plain 10 0;guard 0 0;faith 1 0;", 0, NONE);
        blocks("plain 67 77;guard 77 0;faith 1 0;", 77, NONE);
        // Where he is himself as well.
        blocks("plain 0 30;", 0, NONE);
        // Rock that stands already is not told, nor is there a bound of 8 for what would be.
        blocks("plain 0 30;rock 70;rock 71;rock 72;rock 73;rock 74;rock 75;rock 76;rock 77;", 30, 10);
        blocks("plain 0 30;rock 1;rock 11;", 30, 10);
        unchanged(Bounds::rich, "block(1, 0)", x -> x.block(1, 0));
        unchanged(Bounds::rich, "block(2, 63)", x -> x.block(2, 63));
    }

    @Says(promise = 23, value = "keeps a DIGGER from a CELL for 20 FEET, the first by number.")
    static void p23_block_for_20_feet() {
        // A rock in 27 would send the guard another way, on which he is in 40 behind 20 feet: that keeps him not.
        String round = "guard 23 0;faith 0 40;rock 67;";
        due("without it", Check.told(round).reaches(0, 40), 18);
        due("with it", Check.told(round + "rock 27;").reaches(0, 40), 20);
        blocks(round, 40, 37);
        // Here a rock in 5 would make it 21 feet: that keeps him for 20.
        String longer = "guard 4 0;faith 0 40;rock 60;";
        due("without it", Check.told(longer).reaches(0, 76), 13);
        due("with it", Check.told(longer + "rock 5;").reaches(0, 76), 21);
        blocks(longer, 76, 5);
    }

    @Says(promise = 23, value = "BAD;")
    static void p23_block_BAD() {
        eachRefused(Bounds::rich, "block d", BAD, (x, v) -> x.block(v, 0), LEAST, -1, 4, MOST);
        eachRefused(Bounds::rich, "block cell", BAD, (x, v) -> x.block(1, v), NO_CELLS);
        eachRefused(AimTunnel::new, "block of nobody", BAD, (x, v) -> x.block(v, 0), -1, 0);
        due("block(1, 0) of one", Check.told("guard 0 0;").block(1, 0), BAD);
        due("block of one who is up is none that is refused", rich().block(0, 5), NONE);
    }

    @Says(promise = 23, value = "NONE: none; he is not there by 20 FEET.")
    static void p23_block_NONE() {
        blocks("plain 0 30;", 0, NONE);
        blocks("plain 0 30;", 40, NONE);
        blocks("guard 0 0;faith 0 40;", 72, NONE);
        blocks("guard 0 0;faith 0 19;", 73, NONE);
        blocks("guard 0 0;faith 0 20;", 73, 1);
        blocks("plain 0 10;guard 10 0;faith 1 0;", 10, NONE);
        refused(Bounds::rich, "block(0, 5)", NONE, x -> x.block(0, 5));
        refused(Bounds::rich, "block(0, 6)", NONE, x -> x.block(0, 6));
    }
}
