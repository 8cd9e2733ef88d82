/** The boundary sentences of promises 14 to 19. */
public final class BoundsFeetTest extends Bounds {
    /** A guard who goes inward and comes to cell 65 behind 40 feet, and twice to no cell with one heading. */
    private static final String SPIRAL = "guard 0 0;rock 10;rock 26;faith 0 40;";

    public static void main(String[] args) throws ReflectiveOperationException {
        run(BoundsFeetTest.class);
    }

    // ---- promise 14

    @Says(promise = 14, value = "n FEET (0 to 20): who is UP then (bits).")
    static void p14_dig_0_to_20() {
        AimTunnel x = Check.told("plain 0 1;plain 5 5;guard 0 0;plain 0 70;");
        due("dig(0)", x.dig(0), 0);
        due("rule(3)", x.rule(3), 0);
        due("dig(1)", x.dig(1), 2);
        due("dig(0) again", x.dig(0), 2);
        due("dig(1) again", x.dig(1), 3);
        due("rule(3)", x.rule(3), 2);
        due("dig(5)", x.dig(5), 3);
        due("dig(1), the 8th foot", x.dig(1), 11);
        due("dig(20)", x.dig(20), 11);
        due("rule(3)", x.rule(3), 28);
        AimTunnel once = Check.told("guard 0 0;faith 0 40;");
        AimTunnel byOne = Check.told("guard 0 0;faith 0 40;");
        once.dig(20);
        for (int i = 0; i < 20; i++) {
            byOne.dig(1);
        }
        due("20 feet are 20 times one", once.digger(0, 1), byOne.digger(0, 1));
        due("dig(20) of nobody", new AimTunnel().dig(20), 0);
    }

    @Says(promise = 14, value = "BAD;")
    static void p14_dig_BAD() {
        eachRefused(Bounds::rich, "dig", BAD, (x, v) -> x.dig(v), LEAST, -1, 21, 1000, MOST);
        eachRefused(() -> atFoot("guard 0 0;", 990), "dig at 990", BAD, (x, v) -> x.dig(v), LEAST, -1, 21, MOST);
    }

    @Says(promise = 14, value = "FULL: FOOT would be 1000 or more.")
    static void p14_dig_FULL_foot_would_be_1000() {
        for (int foot = 978; foot <= 999; foot++) {
            int left = 999 - foot;
            int at = foot;
            for (int n = 0; n <= 20; n++) {
                AimTunnel x = atFoot("plain 5 5;", at);
                due("dig(" + n + ") at " + at, x.dig(n), n > left ? FULL : 1);
                due("foot", x.rule(3), n > left ? at : at + n);
            }
        }
        refused(() -> atFoot("guard 0 0;", 999), "dig(1) at 999", FULL, x -> x.dig(1));
        refused(() -> atFoot("guard 0 0;", 980), "dig(20) at 980", FULL, x -> x.dig(20));
        AimTunnel x = atFoot("guard 0 0;", 979);
        due("dig(20) at 979", x.dig(20), 0);
        due("foot", x.rule(3), 999);
    }

    // ---- promise 15

    @Says(promise = 15, value = "BY FEET: who is UP behind n FEET (0 to 40) (what 0; bits), who has FAITH 0 (1; bits),")
    static void p15_runs_who_is_up_and_who_has_faith_0() {
        AimTunnel x = Check.told("plain 0 1;plain 0 0;guard 0 0;cynic 7 7;faith 0 2;faith 2 40;faith 3 0;");
        int[] up = {0, 2, 3, 3};
        int[] lost = {8, 8, 9, 9};
        for (int n = 0; n <= 3; n++) {
            due("runs(" + n + ", 0)", x.runs(n, 0), up[n]);
            due("runs(" + n + ", 1)", x.runs(n, 1), lost[n]);
        }
        due("runs(39, 1)", x.runs(39, 1), 9);
        due("runs(40, 1)", x.runs(40, 1), 13);
        due("runs(40, 0)", x.runs(40, 0), 3);
        // The latest word, and then the longest way: a plain one comes up behind no more feet.
        AimTunnel late = Check.told("plain 0 7;word 7 0 0;word 14 0 3;word 17 0 0;word 20 0 77;faith 0 40;");
        due("runs(34, 0)", late.runs(34, 0), 0);
        due("runs(35, 0)", late.runs(35, 0), 1);
        due("runs(40, 0)", late.runs(40, 0), 1);
        late.dig(20);
        late.dig(15);
        due("runs(0, 0) of one who is up", late.runs(0, 0), 1);
        due("runs(0, 1) of nobody", new AimTunnel().runs(0, 1), 0);
        due("runs(40, 0) of nobody", new AimTunnel().runs(40, 0), 0);
        unchanged(Bounds::rich, "runs(40, 0)", t -> t.runs(40, 0));
    }

    @Says(promise = 15, value = "how often TWO MEET behind any of these (2),")
    static void p15_runs_how_often_two_meet() {
        AimTunnel two = Check.told("guard 0 0;guard 0 0;");
        for (int n = 0; n <= 40; n++) {
            due("runs(" + n + ", 2) of two", two.runs(n, 2), n);
        }
        AimTunnel four = Check.told("guard 0 0;guard 0 0;guard 0 0;guard 0 0;");
        due("runs(0, 2) of four", four.runs(0, 2), 0);
        due("runs(1, 2) of four", four.runs(1, 2), 6);
        due("runs(40, 2) of four", four.runs(40, 2), 240);
        AimTunnel twoByTwo = Check.told("guard 0 0;guard 70 0;guard 0 0;guard 70 0;");
        due("runs(3, 2) of two by two", twoByTwo.runs(3, 2), 6);
        AimTunnel once = Check.told("guard 0 0;guard 3 0;faith 1 0;");
        int[] often = {0, 0, 0, 1, 1, 1};
        for (int n = 0; n <= 5; n++) {
            due("runs(" + n + ", 2) of one who goes by", once.runs(n, 2), often[n]);
        }
        due("runs(40, 2) of one", Check.told("guard 0 0;").runs(40, 2), 0);
        due("runs(40, 2) of nobody", new AimTunnel().runs(40, 2), 0);
    }

    @Says(promise = 15, value = "behind how many first (3; NONE).")
    static void p15_runs_behind_how_many_first() {
        AimTunnel once = Check.told("guard 0 0;guard 3 0;faith 1 0;");
        due("runs(2, 3)", once.runs(2, 3), NONE);
        due("runs(3, 3)", once.runs(3, 3), 3);
        due("runs(4, 3)", once.runs(4, 3), 3);
        due("runs(40, 3)", once.runs(40, 3), 3);
        AimTunnel together = Check.told("guard 0 0;guard 0 0;");
        due("runs(0, 3)", together.runs(0, 3), NONE);
        due("runs(1, 3)", together.runs(1, 3), 1);
        due("runs(40, 3)", together.runs(40, 3), 1);
        AimTunnel last = Check.told(SPIRAL + "guard 65 0;faith 1 0;");
        due("runs(39, 3)", last.runs(39, 3), NONE);
        due("runs(40, 3)", last.runs(40, 3), 40);
        due("runs(40, 3) of nobody", new AimTunnel().runs(40, 3), NONE);
        due("runs(40, 3) of two who are up", Check.told("plain 0 0;plain 0 0;").runs(40, 3), NONE);
    }

    @Says(promise = 15, value = "BAD.")
    static void p15_runs_BAD() {
        for (int what = 0; what <= 3; what++) {
            int w = what;
            eachRefused(Bounds::rich, "runs n, " + w, BAD, (x, v) -> x.runs(v, w), LEAST, -1, 41, MOST);
        }
        eachRefused(Bounds::rich, "runs what", BAD, (x, v) -> x.runs(0, v), LEAST, -1, 4, MOST);
    }

    // ---- promise 16

    @Says(promise = 16, value = "BY FEET: the CELL of a DIGGER behind n FEET (0 to 40).")
    static void p16_ahead_0_to_40() {
        AimTunnel x = Check.told(SPIRAL + "plain 7 5;guard 33 0;");
        due("ahead(0, 0)", x.ahead(0, 0), 0);
        due("ahead(0, 1)", x.ahead(0, 1), 1);
        due("ahead(0, 39)", x.ahead(0, 39), 55);
        due("ahead(0, 40)", x.ahead(0, 40), 65);
        due("ahead(1, 0)", x.ahead(1, 0), 7);
        due("ahead(1, 40) of one who comes up", x.ahead(1, 40), 5);
        due("ahead(2, 19)", x.ahead(2, 19), 60);
        due("ahead(2, 20), his faith's last", x.ahead(2, 20), 50);
        due("ahead(2, 21)", x.ahead(2, 21), 50);
        unchanged(Bounds::rich, "ahead(1, 40)", t -> t.ahead(1, 40));
    }

    @Says(promise = 16, value = "BAD.")
    static void p16_ahead_BAD() {
        eachRefused(Bounds::rich, "ahead n", BAD, (x, v) -> x.ahead(1, v), LEAST, -1, 41, MOST);
        eachRefused(Bounds::rich, "ahead d", BAD, (x, v) -> x.ahead(v, 0), LEAST, -1, 4, MOST);
        eachRefused(AimTunnel::new, "ahead of nobody", BAD, (x, v) -> x.ahead(v, 0), -1, 0);
        due("ahead(1, 0) of one", Check.told("guard 0 0;").ahead(1, 0), BAD);
        due("ahead(3, 0) of four", rich().ahead(3, 0), 71);
    }

    // ---- promise 17

    @Says(promise = 17, value = "BY FEET: behind how many FEET (0 to 40) a DIGGER first is in a CELL.")
    static void p17_reaches_0_to_40() {
        AimTunnel x = Check.told(SPIRAL);
        due("reaches(0, 0), where he is", x.reaches(0, 0), 0);
        due("reaches(0, 1)", x.reaches(0, 1), 1);
        due("reaches(0, 55)", x.reaches(0, 55), 39);
        due("reaches(0, 65)", x.reaches(0, 65), 40);
        AimTunnel to = Check.told("lover 33 35;");
        due("the first of several times", to.reaches(0, 35), 2);
        due("the next cell", to.reaches(0, 36), 3);
        AimTunnel up = Check.told("plain 5 5;");
        up.dig(1);
        due("where one is up", up.reaches(0, 5), 0);
        unchanged(Bounds::rich, "reaches(1, 66)", t -> t.reaches(1, 66));
    }

    @Says(promise = 17, value = "BAD;")
    static void p17_reaches_BAD() {
        eachRefused(Bounds::rich, "reaches d", BAD, (x, v) -> x.reaches(v, 0), LEAST, -1, 4, MOST);
        eachRefused(Bounds::rich, "reaches cell", BAD, (x, v) -> x.reaches(0, v), NO_CELLS);
        eachRefused(AimTunnel::new, "reaches of nobody", BAD, (x, v) -> x.reaches(v, 0), -1, 0);
        for (int cell : new int[] {0, 7, 70, 77}) {
            holds("reaches(3, " + cell + ") is of a cell", rich().reaches(3, cell) != BAD);
        }
    }

    @Says(promise = 17, value = "NONE: behind none.")
    static void p17_reaches_NONE() {
        AimTunnel x = Check.told(SPIRAL);
        x.alter(0, 3, 3);
        due("behind 41", x.reaches(0, 65), NONE);
        due("behind 40", x.reaches(0, 55), 40);
        due("a rock", x.reaches(0, 10), NONE);
        AimTunnel tired = Check.told("guard 0 0;");
        due("as far as his faith", tired.reaches(0, 73), 20);
        due("one on", tired.reaches(0, 72), NONE);
        refused(Bounds::rich, "reaches(0, 6) of one who is up", NONE, t -> t.reaches(0, 6));
    }

    // ---- promise 18

    @Says(promise = 18, value = "BY FEET: behind how many FEET (0 to 40) two DIGGERS MEET first.")
    static void p18_meet_0_to_40() {
        due("together", Check.told("guard 0 0;guard 0 0;").meet(0, 1), 0);
        due("together, not up yet", Check.told("plain 0 0;plain 0 0;").meet(0, 1), 0);
        due("behind 1", Check.told("guard 0 0;guard 1 0;faith 1 0;").meet(0, 1), 1);
        AimTunnel late = Check.told(SPIRAL + "guard 55 0;guard 65 0;faith 1 0;faith 2 0;");
        due("behind 39", late.meet(0, 1), 39);
        due("behind 40", late.meet(0, 2), 40);
        due("behind 40, turned", late.meet(2, 0), 40);
        due("others do not count", late.meet(1, 2), NONE);
        unchanged(Bounds::rich, "meet(1, 2)", t -> t.meet(1, 2));
    }

    @Says(promise = 18, value = "BAD (also alike);")
    static void p18_meet_BAD() {
        eachRefused(Bounds::rich, "meet d", BAD, (x, v) -> x.meet(v, 0), LEAST, -1, 4, MOST);
        eachRefused(Bounds::rich, "meet e", BAD, (x, v) -> x.meet(0, v), LEAST, -1, 4, MOST);
        eachRefused(Bounds::rich, "meet alike", BAD, (x, v) -> x.meet(v, v), -1, 0, 1, 2, 3, 4);
        eachRefused(AimTunnel::new, "meet of nobody", BAD, (x, v) -> x.meet(0, v), 0, 1);
        due("meet(0, 1) of one", Check.told("guard 0 0;").meet(0, 1), BAD);
        due("meet(1, 0) of one", Check.told("guard 0 0;").meet(1, 0), BAD);
    }

    @Says(promise = 18, value = "NONE: behind none.")
    static void p18_meet_NONE() {
        AimTunnel late = Check.told(SPIRAL + "guard 65 0;faith 1 0;");
        late.alter(0, 3, 3);
        due("behind 41", late.meet(0, 1), NONE);
        AimTunnel up = Check.told("plain 0 0;plain 0 0;");
        up.dig(1);
        due("both are up", up.meet(0, 1), NONE);
        AimTunnel one = Check.told("plain 5 5;guard 4 0;faith 1 1;");
        due("he is up when the other comes", one.meet(0, 1), NONE);
        due("likewise", one.meet(1, 0), NONE);
        refused(Bounds::rich, "meet(0, 3)", NONE, t -> t.meet(0, 3));
    }

    // ---- promise 19

    private static void rings(String text, int feet, int fewer) {
        AimTunnel x = Check.told(text);
        due("'" + text + "' ring(0)", x.ring(0), feet);
        due("'" + text + "' ring(1)", x.ring(1), fewer);
    }

    @Says(promise = 19, value = {"BY FEET: behind how many FEET (1 to 40; what 0) AT, HEADING of all and who is UP first are as they are behind fewer,",
        "and behind how many fewer (1; of several the fewest)."})
    static void p19_ring_1_to_40() {
        rings("", 1, 0);
        rings("guard 0 0;faith 0 0;", 1, 0);
        rings("guard 33 0;faith 0 0;", 1, 0);
        rings("guard 33 0;rock 34;rock 43;rock 32;rock 23;", 4, 0);
        rings("guard 0 0;faith 0 1;", 2, 1);
        rings("guard 0 0;faith 0 38;", 32, 0);
        rings("guard 0 0;", 21, 20);
        rings("plain 0 70;guard 0 0;faith 0 40;faith 1 40;", 40, 8);
        // The guard ends behind 39 feet, so that the 40th changes nothing.
        rings(SPIRAL.replace("40", "39"), 40, 39);
        unchanged(Bounds::rich, "ring(0)", x -> x.ring(0));
        unchanged(Bounds::rich, "ring(1)", x -> x.ring(1));
    }

    @Says(promise = 19, value = "AT, HEADING of all and who is UP first are as they are behind fewer,")
    static void p19_ring_by_cell_heading_and_who_is_up_alone() {
        // By the first foot he comes up, which is another state; his faith and the foot are no part of it.
        rings("plain 5 5;", 2, 1);
        // At a wall heading alone changes: north, east, south, west.
        rings("guard 0 0;rock 1;rock 10;faith 0 40;", 4, 0);
        rings("guard 0 0;guard 0 0;rock 1;rock 10;faith 0 40;faith 1 2;", 6, 2);
        // Aims and words are no part of it.
        rings("guard 0 0;rock 1;rock 10;word 2 0 7;", 4, 0);
        // The last digger's heading and cell count as the first one's do.
        rings("guard 33 0;guard 33 0;guard 33 0;guard 0 0;rock 1;rock 10;faith 0 0;faith 1 0;faith 2 0;faith 3 3;", 4, 3);
        rings("guard 33 0;guard 33 0;guard 33 0;guard 0 0;faith 0 0;faith 1 0;faith 2 0;faith 3 5;", 6, 5);
        rings("guard 33 0;guard 33 0;guard 33 0;plain 0 0;faith 0 0;faith 1 0;faith 2 0;faith 3 5;", 2, 1);
    }

    @Says(promise = 19, value = "BAD;")
    static void p19_ring_BAD() {
        eachRefused(Bounds::rich, "ring", BAD, (x, v) -> x.ring(v), LEAST, -1, 2, MOST);
        eachRefused(AimTunnel::new, "ring of nobody", BAD, (x, v) -> x.ring(v), -1, 2);
    }

    @Says(promise = 19, value = "NONE: they are not.")
    static void p19_ring_NONE() {
        rings(SPIRAL, NONE, NONE);
        rings("plain 0 71;guard 0 0;faith 0 40;faith 1 40;", NONE, NONE);
        refused(() -> Check.told(SPIRAL), "ring(0)", NONE, x -> x.ring(0));
        refused(() -> Check.told(SPIRAL), "ring(1)", NONE, x -> x.ring(1));
    }
}
