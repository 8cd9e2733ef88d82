/** The boundary sentences of promises 10 to 13. */
public final class BoundsChangeTest extends Bounds {
    public static void main(String[] args) throws ReflectiveOperationException {
        run(BoundsChangeTest.class);
    }

    // ---- promise 10

    @Says(promise = 10, value = "KIND, AIM, HEADING, FAITH (what 0, 2, 3, 4 as in digger()) of a DIGGER becomes v: what it was.")
    static void p10_alter_within_bounds() {
        int[][] least = {{0, 0}, {2, 0}, {3, 0}, {4, 0}};
        int[][] most = {{0, 3}, {2, 77}, {3, 3}, {4, 40}};
        for (int d = 0; d < 4; d++) {
            for (int i = 0; i < 4; i++) {
                AimTunnel x = Check.told("guard 1 1;guard 2 2;guard 3 3;guard 4 4;");
                int what = least[i][0];
                int was = x.digger(d, what);
                due("alter(" + d + ", " + what + ", least)", x.alter(d, what, least[i][1]), was);
                due("least", x.digger(d, what), least[i][1]);
                due("alter(" + d + ", " + what + ", most)", x.alter(d, what, most[i][1]), least[i][1]);
                due("most", x.digger(d, what), most[i][1]);
                due("alter to what it is", x.alter(d, what, most[i][1]), most[i][1]);
                for (int e = 0; e < 4; e++) {
                    for (int other = 0; other <= 5; other++) {
                        AimTunnel same = Check.told("guard 1 1;guard 2 2;guard 3 3;guard 4 4;");
                        boolean changed = e == d && other == what;
                        due("digger(" + e + ", " + other + ")", x.digger(e, other), changed ? most[i][1] : same.digger(e, other));
                    }
                }
            }
        }
        AimTunnel rock = Check.told("guard 0 0;rock 5;");
        due("an aim may be a rock", rock.alter(0, 2, 5), 0);
    }

    @Says(promise = 10, value = "BAD;")
    static void p10_alter_BAD() {
        eachRefused(Bounds::rich, "alter d", BAD, (x, v) -> x.alter(v, 2, 0), LEAST, -1, 4, MOST);
        eachRefused(Bounds::rich, "alter what", BAD, (x, v) -> x.alter(1, v, 0), LEAST, -1, 1, 5, 6, MOST);
        eachRefused(Bounds::rich, "alter kind", BAD, (x, v) -> x.alter(1, 0, v), LEAST, -1, 4, MOST);
        eachRefused(Bounds::rich, "alter aim", BAD, (x, v) -> x.alter(1, 2, v), NO_CELLS);
        eachRefused(Bounds::rich, "alter heading", BAD, (x, v) -> x.alter(1, 3, v), LEAST, -1, 4, MOST);
        eachRefused(Bounds::rich, "alter faith", BAD, (x, v) -> x.alter(1, 4, v), LEAST, -1, 41, MOST);
        eachRefused(AimTunnel::new, "alter of nobody", BAD, (x, v) -> x.alter(v, 2, 0), -1, 0);
        due("alter(1, 4, 1) of one", Check.told("guard 0 0;").alter(1, 4, 1), BAD);
    }

    @Says(promise = 10, value = "STATE: he is UP.")
    static void p10_alter_STATE_he_is_up() {
        for (int what : new int[] {0, 2, 3, 4}) {
            refused(Bounds::rich, "alter(0, " + what + ", 1)", STATE, x -> x.alter(0, what, 1));
        }
        AimTunnel x = Check.told("plain 5 5;plain 6 6;faith 1 0;");
        due("not up yet", x.alter(0, 2, 5), 5);
        x.dig(1);
        due("up", x.alter(0, 2, 5), STATE);
        due("without faith he is not up", x.alter(1, 4, 3), 0);
    }

    // ---- promise 11

    @Says(promise = 11, value = "A CELL becomes ROCK, or not: whether it was.")
    static void p11_stone_whether_it_was() {
        AimTunnel x = new AimTunnel();
        for (int cell : new int[] {0, 7, 70, 77, 34}) {
            due("stone(" + cell + ", false) of none", x.stone(cell, false), 0);
            due("stone(" + cell + ", true)", x.stone(cell, true), 0);
            due("stone(" + cell + ", true) again", x.stone(cell, true), 1);
            due("rocks", x.rule(1), 1);
            due("rock(" + cell + ")", x.rock(cell), 1);
            due("stone(" + cell + ", false)", x.stone(cell, false), 1);
            due("stone(" + cell + ", false) again", x.stone(cell, false), 0);
            due("rocks", x.rule(1), 0);
            due("rock(" + cell + ")", x.rock(cell), 0);
        }
    }

    @Says(promise = 11, value = "BAD;")
    static void p11_stone_BAD() {
        eachRefused(Bounds::rich, "stone true", BAD, (x, v) -> x.stone(v, true), NO_CELLS);
        eachRefused(Bounds::rich, "stone false", BAD, (x, v) -> x.stone(v, false), NO_CELLS);
    }

    @Says(promise = 11, value = "where it is to become ROCK and is not: STATE: a DIGGER is there,")
    static void p11_stone_STATE_a_digger_is_there() {
        refused(Bounds::rich, "where one is up", STATE, x -> x.stone(5, true));
        refused(Bounds::rich, "where one goes", STATE, x -> x.stone(0, true));
        refused(Bounds::rich, "where a lover is", STATE, x -> x.stone(53, true));
        refused(Bounds::rich, "where one is without faith", STATE, x -> x.stone(71, true));
        due("where one was", rich().stone(70, true), 0);
        due("where one will be", rich().stone(72, true), 0);
        due("not to become rock", rich().stone(5, false), 0);
        for (int d = 0; d < 4; d++) {
            AimTunnel x = Check.told("guard 1 0;guard 2 0;guard 3 0;guard 4 0;");
            due("where " + d + " is", x.stone(d + 1, true), STATE);
        }
    }

    @Says(promise = 11, value = "then FULL: there are 8.")
    static void p11_stone_FULL_there_are_8() {
        String seven = "guard 50 0;rock 0;rock 1;rock 2;rock 3;rock 4;rock 5;rock 6;";
        AimTunnel x = Check.told(seven);
        due("the 8th", x.stone(7, true), 0);
        refused(() -> Check.told(seven + "rock 7;"), "the 9th", FULL, t -> t.stone(77, true));
        refused(() -> Check.told(seven + "rock 7;"), "the 9th where one is", STATE, t -> t.stone(50, true));
        due("one that is rock already", x.stone(7, true), 1);
        due("one less of what is none", x.stone(77, false), 0);
        due("still 8", x.stone(77, true), FULL);
        due("one less", x.stone(0, false), 1);
        due("one more", x.stone(77, true), 0);
    }

    // ---- promise 12

    @Says(promise = 12, value = "A WORD more: how many there are.")
    static void p12_tell_how_many_there_are() {
        AimTunnel x = Check.told("guard 0 0;guard 0 0;guard 0 0;guard 0 0;word 1 1 1;");
        due("foot, digger, aim the least", x.tell(0, 0, 0), 2);
        due("foot, digger, aim the most", x.tell(20, 3, 77), 3);
        int[][] words = {{1, 1, 1}, {0, 0, 0}, {20, 3, 77}};
        for (int i = 0; i < 3; i++) {
            for (int what = 0; what <= 2; what++) {
                due("word(" + i + ", " + what + ")", x.word(i, what), words[i][what]);
            }
        }
        due("words", x.rule(2), 3);
        AimTunnel up = Check.told("plain 5 5;");
        up.dig(1);
        due("also to one who is up", up.tell(3, 0, 1), 1);
        due("also of a foot that is past", up.tell(0, 0, 1), 2);
    }

    @Says(promise = 12, value = "BAD;")
    static void p12_tell_BAD() {
        eachRefused(Bounds::rich, "tell foot", BAD, (x, v) -> x.tell(v, 0, 0), LEAST, -1, 21, MOST);
        eachRefused(Bounds::rich, "tell d", BAD, (x, v) -> x.tell(0, v, 0), LEAST, -1, 4, MOST);
        eachRefused(Bounds::rich, "tell aim", BAD, (x, v) -> x.tell(0, 0, v), NO_CELLS);
        eachRefused(AimTunnel::new, "tell to nobody", BAD, (x, v) -> x.tell(0, v, 0), -1, 0);
        due("tell(0, 1, 0) of one", Check.told("guard 0 0;").tell(0, 1, 0), BAD);
    }

    @Says(promise = 12, value = "FULL.")
    static void p12_tell_FULL_with_6() {
        AimTunnel x = Check.told("guard 0 0;");
        for (int i = 1; i <= 6; i++) {
            due("word " + i, x.tell(i, 0, i), i);
        }
        due("word 7", x.tell(7, 0, 7), FULL);
        x.hush(5);
        due("word 6 again", x.tell(7, 0, 7), 6);
        due("word 7 again", x.tell(7, 0, 7), FULL);
        refused(() -> {
            AimTunnel full = rich();
            for (int i = 0; i < 3; i++) {
                full.tell(6, 1, 60 + i);
            }
            return full;
        }, "tell of a full row", FULL, t -> t.tell(2, 1, 33));
    }

    // ---- promise 13

    @Says(promise = 13, value = {"WORDS are the first n alone: how many there were.", "BAD."})
    static void p13_hush_first_n() {
        for (int n = 0; n <= 6; n++) {
            AimTunnel x = Check.told("guard 0 0;");
            for (int i = 0; i < 6; i++) {
                x.tell(i, 0, 10 + i);
            }
            due("hush(" + n + ") of 6", x.hush(n), 6);
            due("words", x.rule(2), n);
            for (int i = 0; i < 6; i++) {
                due("word(" + i + ", 2)", x.word(i, 2), i < n ? 10 + i : BAD);
            }
            due("hush(" + n + ") again", x.hush(n), n);
            x.dig(7);
            due("the last that came", x.digger(0, 2), n == 0 ? 0 : 9 + n);
        }
        due("hush(0) of none", new AimTunnel().hush(0), 0);
        due("hush(1) of none", new AimTunnel().hush(1), BAD);
        eachRefused(Bounds::rich, "hush", BAD, (x, v) -> x.hush(v), LEAST, -1, 4, 6, 7, MOST);
    }
}
