/** The boundary sentences of promises 26 to 31. */
public final class BoundsMeantTest extends Bounds {
    public static void main(String[] args) throws ReflectiveOperationException {
        run(BoundsMeantTest.class);
    }

    private static AimTunnel seen(String text, int... seen) {
        AimTunnel x = Check.told(text);
        for (int i = 0; i < seen.length; i += 3) {
            x.see(seen[i], seen[i + 1], seen[i + 2]);
        }
        return x;
    }

    private static void fits(AimTunnel x, int d, int many, int first) {
        due("aims(" + d + ", 0)", x.aims(d, 0), many);
        due("aims(" + d + ", 1)", x.aims(d, 1), first);
    }

    // ---- promise 26

    @Says(promise = 26, value = "SEEN: behind n FEET (0 to 20) from now on a DIGGER is AT a CELL: how many are.")
    static void p26_see_0_to_20() {
        AimTunnel x = Check.told("plain 0 77;guard 0 0;guard 0 0;guard 0 0;");
        due("the least", x.see(0, 0, 0), 1);
        due("the most", x.see(3, 20, 77), 2);
        due("how many", x.count(0), 2);
        due("twice the same", x.see(3, 20, 77), 3);
        // Behind 0 feet is now.
        fits(seen("plain 0 77;", 0, 0, 0), 0, 64, 0);
        fits(seen("plain 0 77;", 0, 0, 1), 0, 0, NONE);
        fits(seen("plain 0 77;", 0, 1, 0), 0, 1, 0);
        fits(seen("plain 0 77;", 0, 20, 66), 0, 1, 66);
        due("a guard is at 73 behind 20", seen("guard 0 0;faith 0 40;", 0, 20, 73).kinds(0), 8);
        due("and not at 74", seen("guard 0 0;faith 0 40;", 0, 20, 74).kinds(0), 0);
        // Where nobody can be may be seen as well.
        due("a rock", seen("guard 0 0;rock 5;").see(0, 3, 5), 1);
    }

    @Says(promise = 26, value = "from now on a DIGGER is AT a CELL")
    static void p26_see_from_now_on() {
        AimTunnel x = seen("plain 0 77;", 0, 1, 20);
        fits(x, 0, 0, NONE);
        x.dig(1);
        fits(x, 0, 48, 20);
        x.dig(1);
        // From 20 he is in 20 behind a foot by the aim 20 alone.
        fits(x, 0, 1, 20);
    }

    @Says(promise = 26, value = "BAD;")
    static void p26_see_BAD() {
        eachRefused(Bounds::rich, "see d", BAD, (x, v) -> x.see(v, 0, 0), LEAST, -1, 4, MOST);
        eachRefused(Bounds::rich, "see n", BAD, (x, v) -> x.see(1, v, 0), LEAST, -1, 21, MOST);
        eachRefused(Bounds::rich, "see cell", BAD, (x, v) -> x.see(1, 0, v), NO_CELLS);
        eachRefused(AimTunnel::new, "see of nobody", BAD, (x, v) -> x.see(v, 0, 0), -1, 0);
        due("see(1, 0, 0) of one", Check.told("guard 0 0;").see(1, 0, 0), BAD);
    }

    @Says(promise = 26, value = "FULL.")
    static void p26_see_FULL_with_6() {
        AimTunnel x = Check.told("guard 0 0;");
        for (int i = 1; i <= 6; i++) {
            due("seen " + i, x.see(0, i, i), i);
        }
        due("seen 7", x.see(0, 7, 7), FULL);
        x.forget(5);
        due("seen 6 again", x.see(0, 7, 7), 6);
        due("seen 7 again", x.see(0, 7, 7), FULL);
        refused(() -> {
            AimTunnel full = rich();
            for (int i = 0; i < 4; i++) {
                full.see(1, i, 0);
            }
            return full;
        }, "see of a full row", FULL, t -> t.see(1, 2, 66));
    }

    // ---- promise 27

    @Says(promise = 27, value = {"SEEN are the first n alone: how many there were.", "BAD."})
    static void p27_forget_first_n() {
        int[] left = {64, 56, 48, 40, 32, 24, 16};
        for (int n = 0; n <= 6; n++) {
            // Behind i feet he is in 10 times i, if x of his aim is as much at least.
            AimTunnel x = Check.told("plain 0 77;");
            for (int i = 1; i <= 6; i++) {
                x.see(0, i, 10 * i);
            }
            due("forget(" + n + ") of 6", x.forget(n), 6);
            due("how many", x.count(0), n);
            due("forget(" + n + ") again", x.forget(n), n);
            due("aims(0, 0)", x.aims(0, 0), left[n]);
        }
        due("forget(0) of none", new AimTunnel().forget(0), 0);
        due("forget(1) of none", new AimTunnel().forget(1), BAD);
        eachRefused(Bounds::rich, "forget", BAD, (x, v) -> x.forget(v), LEAST, -1, 3, 6, 7, MOST);
    }

    // ---- promise 28

    @Says(promise = 28, value = "AIMS of a DIGGER by which, all else as it is, all is as SEEN: how many CELLS (what 0), the first by number (1).")
    static void p28_aims_how_many_and_the_first() {
        fits(seen("plain 0 77;"), 0, 64, 0);
        fits(seen("plain 0 77;", 0, 14, 77), 0, 1, 77);
        fits(seen("plain 77 0;", 0, 14, 0), 0, 1, 0);
        fits(seen("plain 0 77;", 0, 2, 20), 0, 48, 20);
        fits(seen("plain 0 77;", 0, 2, 20, 0, 3, 21), 0, 7, 21);
        // All that is seen has to be so: of others as well.
        fits(seen("plain 0 77;guard 0 0;", 0, 2, 20, 1, 2, 2), 0, 48, 20);
        fits(seen("plain 0 77;guard 0 0;", 0, 2, 20, 1, 2, 3), 0, 0, NONE);
        fits(seen("plain 0 77;guard 0 0;", 0, 2, 20), 1, 64, 0);
        // All 6 count, the last as the first.
        fits(seen("plain 0 77;", 0, 0, 0, 0, 0, 0, 0, 0, 0, 0, 0, 0, 0, 0, 0, 0, 2, 20), 0, 48, 20);
        // One who is up means what he will: all aims, or none.
        AimTunnel up = seen("plain 5 5;", 0, 3, 5);
        up.dig(1);
        fits(up, 0, 64, 0);
        up.see(0, 3, 6);
        fits(up, 0, 0, NONE);
        unchanged(Bounds::rich, "aims(1, 0)", x -> x.aims(1, 0));
        unchanged(Bounds::rich, "aims(1, 1)", x -> x.aims(1, 1));
    }

    @Says(promise = 28, value = "BAD;")
    static void p28_aims_BAD() {
        eachRefused(Bounds::rich, "aims d", BAD, (x, v) -> x.aims(v, 0), LEAST, -1, 4, MOST);
        eachRefused(Bounds::rich, "aims what", BAD, (x, v) -> x.aims(1, v), LEAST, -1, 2, MOST);
        eachRefused(AimTunnel::new, "aims of nobody", BAD, (x, v) -> x.aims(v, 0), -1, 0);
        due("aims(1, 0) of one", Check.told("guard 0 0;").aims(1, 0), BAD);
    }

    @Says(promise = 28, value = "NONE (1): there are none.")
    static void p28_aims_NONE() {
        refused(() -> seen("plain 0 77;", 0, 0, 1), "aims(0, 1)", NONE, x -> x.aims(0, 1));
        refused(() -> seen("plain 0 77;", 0, 0, 1), "aims(0, 0)", 0, x -> x.aims(0, 0));
        fits(seen("plain 0 77;", 0, 14, 77, 0, 20, 0), 0, 0, NONE);
    }

    // ---- promise 29

    @Says(promise = 29, value = "KINDS of a DIGGER (bits) by which, all else as it is, all is as SEEN.")
    static void p29_kinds_bits() {
        due("nothing is seen", seen("guard 0 77;").kinds(0), 15);
        due("plain ones and lovers, alone", seen("guard 0 77;", 0, 1, 10).kinds(0), 5);
        due("cynics", seen("guard 0 77;", 0, 1, 0).kinds(0), 2);
        due("guards", seen("plain 0 77;", 0, 1, 1).kinds(0), 8);
        due("none", seen("guard 0 77;", 0, 1, 77).kinds(0), 0);
        due("lovers, with another", seen("guard 33 3;guard 53 0;", 0, 1, 43).kinds(0), 4);
        due("the other's are all", seen("guard 33 3;guard 53 0;", 0, 1, 34).kinds(1), 15);
        due("behind 20 feet", seen("plain 0 0;faith 0 40;", 0, 20, 73).kinds(0), 8);
        due("without faith", seen("plain 0 77;faith 0 0;", 0, 20, 0).kinds(0), 15);
        unchanged(Bounds::rich, "kinds(1)", x -> x.kinds(1));
    }

    @Says(promise = 29, value = "BAD.")
    static void p29_kinds_BAD() {
        eachRefused(Bounds::rich, "kinds", BAD, (x, v) -> x.kinds(v), LEAST, -1, 4, MOST);
        eachRefused(AimTunnel::new, "kinds of nobody", BAD, (x, v) -> x.kinds(v), -1, 0);
        due("kinds(3) of four", Check.told("guard 0 0;guard 0 0;guard 0 0;guard 0 0;").kinds(3), 15);
        due("kinds(1) of one", Check.told("guard 0 0;").kinds(1), BAD);
    }

    // ---- promise 30

    private static void looks(AimTunnel x, int d, int feet, int left) {
        due("look(" + d + ", 0)", x.look(d, 0), feet);
        due("look(" + d + ", 1)", x.look(d, 1), left);
    }

    @Says(promise = 30, value = "Behind how many FEET (0 to 20) to look where a DIGGER is, so that of AIMS that he may have fewest are left at the worst,")
    static void p30_look_0_to_20() {
        // Behind 14 feet he is where he meant to be, whatever it was.
        looks(Check.told("plain 0 77;"), 0, 14, 1);
        looks(Check.told("plain 33 77;"), 0, 8, 1);
        looks(Check.told("plain 0 77;faith 0 1;"), 0, 1, 56);
        looks(Check.told("plain 0 77;faith 0 2;"), 0, 2, 48);
        // Only behind 20 feet it is told apart: the word of foot 19 is what does it.
        looks(Check.told("cynic 30 52;rock 33;faith 0 40;word 19 0 2;"), 0, 20, 32);
        unchanged(Bounds::rich, "look(1, 0)", x -> x.look(1, 0));
        unchanged(Bounds::rich, "look(1, 1)", x -> x.look(1, 1));
    }

    @Says(promise = 30, value = "fewer than now, the first (what 0), how many these are (1).")
    static void p30_look_fewer_than_now_the_first() {
        // Seven are left; behind 9 feet all are told apart, and behind more as well.
        looks(seen("plain 0 77;", 0, 2, 20, 0, 3, 21), 0, 9, 1);
        // Two are left, of which a look behind 14 feet leaves one; one is not fewer than one.
        looks(seen("plain 0 77;", 0, 13, 76), 0, 14, 1);
        fits(seen("plain 0 77;", 0, 13, 76), 0, 2, 76);
        looks(seen("plain 0 77;", 0, 14, 77), 0, NONE, NONE);
        // Two are left, one of them the aim 0.
        fits(seen("plain 77 33;", 0, 13, 1), 0, 2, 0);
        looks(seen("plain 77 33;", 0, 13, 1), 0, 14, 1);
    }

    @Says(promise = 30, value = "BAD;")
    static void p30_look_BAD() {
        eachRefused(Bounds::rich, "look d", BAD, (x, v) -> x.look(v, 0), LEAST, -1, 4, MOST);
        eachRefused(Bounds::rich, "look what", BAD, (x, v) -> x.look(1, v), LEAST, -1, 2, MOST);
        eachRefused(AimTunnel::new, "look of nobody", BAD, (x, v) -> x.look(v, 0), -1, 0);
        due("look(1, 0) of one", Check.told("guard 0 0;").look(1, 0), BAD);
    }

    @Says(promise = 30, value = "NONE: behind none.")
    static void p30_look_NONE() {
        looks(Check.told("guard 0 77;"), 0, NONE, NONE);
        looks(Check.told("plain 0 77;faith 0 0;"), 0, NONE, NONE);
        looks(Check.told("plain 0 77;rock 10;rock 1;"), 0, NONE, NONE);
        looks(Check.told("lover 0 77;guard 5 5;"), 0, NONE, NONE);
        looks(seen("plain 0 77;", 0, 0, 1), 0, NONE, NONE);
        // One who is up is where he is.
        looks(rich(), 0, NONE, NONE);
        refused(() -> seen("plain 0 77;", 0, 0, 1), "look(0, 0)", NONE, x -> x.look(0, 0));
        refused(() -> seen("plain 0 77;", 0, 0, 1), "look(0, 1)", NONE, x -> x.look(0, 1));
    }

    // ---- promise 31

    @Says(promise = 31, value = "By itself, n FEET (1 to 60) by a seed:")
    static void p31_drift_1_to_60() {
        AimTunnel x = Check.told("plain 0 77;guard 0 0;");
        due("n 1", x.drift(0, 1, 1), 0);
        due("n 60", x.drift(0, 60, 1), 0);
        due("n 60, who is up", x.drift(0, 60, 0), 1);
        unchanged(Bounds::rich, "drift(7, 60, 0)", t -> t.drift(7, 60, 0));
        unchanged(Bounds::rich, "drift(7, 60, 1)", t -> t.drift(7, 60, 1));
        AimTunnel guard = Check.told("guard 0 0;faith 0 40;");
        due("n 39", guard.drift(5, 39, 1), guard.ahead(0, 39));
        due("n 40", guard.drift(5, 40, 1), guard.ahead(0, 40));
        due("n 41, without faith", guard.drift(5, 41, 1), guard.ahead(0, 40));
        due("n 60, without faith", guard.drift(5, 60, 1), guard.ahead(0, 40));
    }

    @Says(promise = 31, value = "ahead of each the seed becomes seed times 1103515245 and 12345; bits 16 to 30 of it are got:")
    static void p31_drift_the_seed_goes_round() {
        // Every seed is one: the product wraps as an int does, and bit 31 is not got.
        for (int seed : new int[] {0, 1, -1, 7, LEAST, MOST, LEAST + 1, 123456789, -987654321}) {
            long state = seed & 0xffffffffL;
            AimTunnel x = Check.told("plain 33 77;faith 0 40;");
            AimTunnel byHand = Check.told("plain 33 77;faith 0 40;");
            for (int n = 1; n <= 30; n++) {
                state = (state * 1103515245L + 12345L) & 0xffffffffL;
                int got = (int) (state >> 16 & 0x7fffL);
                byHand.alter(0, 2, got / 8 % 8 * 10 + got / 64 % 8);
                byHand.dig(1);
                due("drift(" + seed + ", " + n + ", 1)", x.drift(seed, n, 1), byHand.digger(0, 1));
                due("drift(" + seed + ", " + n + ", 0)", x.drift(seed, n, 0), byHand.rule(4));
            }
        }
    }

    @Says(promise = 31, value = "the DIGGER got modulo DIGGERS, if he is not UP, has AIM x got by 8 (down) modulo 8, y got by 64 (down) modulo 8: who is UP in the end (what 0; bits), the CELL of DIGGER 0 (1).")
    static void p31_drift_the_digger_got_modulo_diggers() {
        String[] many = {"plain 33 77;", "cynic 20 55;", "plain 5 6;", "lover 70 7;"};
        StringBuilder text = new StringBuilder();
        for (int diggers = 1; diggers <= 4; diggers++) {
            text.append(many[diggers - 1]);
            for (int seed = 0; seed < 40; seed++) {
                AimTunnel x = Check.told(text.toString());
                AimTunnel byHand = Check.told(text.toString());
                int state = seed;
                for (int n = 1; n <= 20; n++) {
                    state = state * 1103515245 + 12345;
                    int got = state >>> 16 & 0x7fff;
                    // alter() refuses him who is up, as it has to be here.
                    byHand.alter(got % diggers, 2, got / 8 % 8 * 10 + got / 64 % 8);
                    byHand.dig(1);
                }
                due("drift(" + seed + ", 20, 0) of " + diggers, x.drift(seed, 20, 0), byHand.rule(4));
                due("drift(" + seed + ", 20, 1) of " + diggers, x.drift(seed, 20, 1), byHand.digger(0, 1));
            }
        }
    }

    @Says(promise = 31, value = "BAD;")
    static void p31_drift_BAD() {
        eachRefused(Bounds::rich, "drift n", BAD, (x, v) -> x.drift(1, v, 0), LEAST, -1, 0, 61, MOST);
        eachRefused(Bounds::rich, "drift what", BAD, (x, v) -> x.drift(1, 1, v), LEAST, -1, 2, MOST);
        eachRefused(AimTunnel::new, "drift n of nobody", BAD, (x, v) -> x.drift(1, v, 0), 0, 61);
        eachRefused(AimTunnel::new, "drift what of nobody", BAD, (x, v) -> x.drift(1, 1, v), -1, 2);
    }

    @Says(promise = 31, value = "STATE: there are no DIGGERS.")
    static void p31_drift_STATE_there_are_no_diggers() {
        refused(AimTunnel::new, "drift(1, 1, 0)", STATE, x -> x.drift(1, 1, 0));
        refused(AimTunnel::new, "drift(1, 60, 1)", STATE, x -> x.drift(1, 60, 1));
        refused(() -> Check.told("rock 5;"), "drift(1, 1, 0) of rock alone", STATE, x -> x.drift(1, 1, 0));
        due("of one digger", Check.told("guard 0 0;").drift(1, 1, 0), 0);
    }
}
