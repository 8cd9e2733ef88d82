import java.util.List;
import java.util.function.Supplier;
import java.util.function.ToLongFunction;

/** The boundary sentences of "What it is" and of "Terms", but for those of the text (BoundsTextTest). */
public final class BoundsTermsTest extends Bounds {
    public static void main(String[] args) throws ReflectiveOperationException {
        run(BoundsTermsTest.class);
    }

    @Says(promise = 0, value = "An object is used for at most 512 calls after it has been made; what later calls answer is free.")
    static void object_the_512th_call_still_answers() {
        AimTunnel x = new AimTunnel();
        for (int i = 1; i <= 510; i++) {
            due("call " + i, i % 2 == 1 ? x.feed(32) : x.end(0), 1);
        }
        due("call 511", x.feed(32), 1);
        due("call 512", x.text(), 0);
        // Whatever they answer, later calls end.
        for (int i = 0; i < 1000; i++) {
            x.feed(32);
        }
        x.text();
    }

    @Says(promise = 0, value = {"Answers: BAD -1 (a number is not as told, there is no such CELL, DIGGER, IMAGE, SHEET)",
        "STATE -2 (as told), FULL -3, NONE -4 (there is none)"})
    static void answers_have_their_numbers() {
        AimTunnel x = rich();
        due("BAD", AimTunnel.BAD, -1);
        due("STATE", AimTunnel.STATE, -2);
        due("FULL", AimTunnel.FULL, -3);
        due("NONE", AimTunnel.NONE, -4);
        due("a number not as told", x.rule(6), -1);
        due("no such cell", x.rock(8), -1);
        due("no such digger", x.digger(4, 0), -1);
        due("no such image", x.keep(2), -1);
        due("no such sheet", x.lay(4, 0, 0), -1);
        due("state", x.alter(0, 2, 0), -2);
        due("full", atFoot("", 999).dig(1), -3);
        due("none", x.reaches(0, 6), -4);
    }

    @Says(promise = 0, value = "the first that fits")
    static void answers_BAD_is_ahead_of_STATE() {
        refused(Bounds::rich, "alter(0, 2, 8)", BAD, x -> x.alter(0, 2, 8));
        refused(Bounds::rich, "alter(0, 1, 0)", BAD, x -> x.alter(0, 1, 0));
        refused(Bounds::rich, "aim(0, 5, 41, 0)", BAD, x -> x.aim(0, 5, 41, 0));
        refused(Bounds::rich, "words(0, 8)", BAD, x -> x.words(0, 8));
        refused(Bounds::rich, "spread(0, 41)", BAD, x -> x.spread(0, 41));
        refused(AimTunnel::new, "drift(1, 61, 0)", BAD, x -> x.drift(1, 61, 0));
        refused(AimTunnel::new, "back(2)", BAD, x -> x.back(2));
    }

    @Says(promise = 0, value = "the first that fits")
    static void answers_BAD_is_ahead_of_FULL() {
        refused(BoundsTermsTest::allFull, "feed(128)", BAD, x -> x.feed(128));
        refused(BoundsTermsTest::allFull, "stone(8, true)", BAD, x -> x.stone(8, true));
        refused(BoundsTermsTest::allFull, "tell(21, 0, 0)", BAD, x -> x.tell(21, 0, 0));
        refused(BoundsTermsTest::allFull, "see(0, 21, 0)", BAD, x -> x.see(0, 21, 0));
        refused(() -> atFoot("guard 0 0;", 999), "dig(21)", BAD, x -> x.dig(21));
        refused(() -> atFoot("guard 0 0;", 999), "dig(-1)", BAD, x -> x.dig(-1));
        due("feed(32)", allFull().feed(32), FULL);
        due("stone(77, true)", allFull().stone(77, true), FULL);
        due("tell(20, 0, 0)", allFull().tell(20, 0, 0), FULL);
        due("see(0, 20, 0)", allFull().see(0, 20, 0), FULL);
    }

    @Says(promise = 0, value = "the first that fits")
    static void answers_STATE_is_ahead_of_FULL_and_NONE() {
        refused(BoundsTermsTest::allFull, "stone(50, true)", STATE, x -> x.stone(50, true));
        refused(Bounds::rich, "aim(0, 77, 40, 0)", STATE, x -> x.aim(0, 77, 40, 0));
        refused(Bounds::rich, "words(0, 77)", STATE, x -> x.words(0, 77));
    }

    @Says(promise = 0, value = "the first that fits")
    static void answers_BAD_is_ahead_of_NONE_and_of_what_the_machine_finds() {
        due("reaches(4, 77)", rich().reaches(4, 77), BAD);
        due("runs(41, 3)", rich().runs(41, 3), BAD);
        due("block(0, 8)", rich().block(0, 8), BAD);
        due("sheet(4, 0, -1)", rich().sheet(4, 0, -1), BAD);
        due("sheet(0, 3, -1)", rich().sheet(0, 3, -1), BAD);
        due("lay(4, -1, 0)", rich().lay(4, -1, 0), BAD);
        due("read(3, 3, -1, 1)", rich().read(3, 3, -1, 1), BAD);
        due("read(3, 0, -1, 21)", rich().read(3, 0, -1, 21), BAD);
    }

    /** Tape, rocks, words and what was seen have no room left. */
    private static AimTunnel allFull() {
        AimTunnel x = Check.told("guard 50 0;rock 0;rock 1;rock 2;rock 3;rock 4;rock 5;rock 6;rock 7;");
        for (int i = 0; i < 6; i++) {
            x.tell(i, 0, 11 * i);
            x.see(0, i, 50 + i);
        }
        Check.feed(x, "plain 0 0;");
        for (int i = 10; i < 160; i++) {
            x.feed(32);
        }
        return x;
    }

    @Says(promise = 0, value = "what is refused changes nothing (but THE TAPE, as told).")
    static void refused_calls_change_nothing_one_behind_another() {
        unchanged(Bounds::rich, "all refused calls together", x -> {
            x.feed(-1); x.end(-1); x.end(161); x.alter(0, 2, 0); x.alter(1, 2, 8); x.alter(1, 4, 41);
            x.stone(5, true); x.stone(8, true); x.tell(21, 0, 0); x.tell(0, 4, 0); x.hush(-1); x.hush(4);
            x.dig(-1); x.dig(21); x.runs(41, 0); x.ahead(4, 0); x.reaches(0, 8); x.meet(1, 1); x.ring(2);
            x.aim(0, 0, 0, 0); x.words(0, 0); x.spread(0, 0); x.block(0, 8); x.luck(11, 0, 0, 0); x.mean(11, 0, 0);
            x.see(0, 21, 0); x.see(4, 0, 0); x.forget(-1); x.forget(3); x.aims(4, 0); x.kinds(4); x.look(4, 0);
            x.drift(0, 61, 0); x.keep(2); x.keep(-1); x.back(2); x.back(0); x.sheet(0, 0, 41); x.sheet(0, 0, -1);
            x.lay(3, 0, 1); x.lay(0, 6, 1); x.lay(0, -1, 1); x.read(0, 0, 0, 21);
            return x.count(5);
        });
    }

    @Says(promise = 0, value = "BY FEET: as it would be from now on.")
    static void questions_by_feet_change_nothing() {
        unchanged(Bounds::rich, "all questions together", x -> {
            for (int d = 0; d < 4; d++) {
                x.ahead(d, 40);
                x.reaches(d, 66);
                x.meet(d, 3 - d);
                x.aim(d, 66, 40, 0);
                x.words(d, 66);
                x.spread(d, 40);
                x.block(d, 66);
                x.luck(5, d, 40, 0);
                x.aims(d, 0);
                x.kinds(d);
                x.look(d, 0);
            }
            x.runs(40, 0);
            x.ring(0);
            x.mean(5, 40, 0);
            return x.drift(5, 60, 0);
        });
    }

    @Says(promise = 0, value = "BY FEET: as it would be from now on.")
    static void by_feet_it_is_as_it_will_be() {
        asItWillBe(Bounds::rich);
        // Lovers who follow lovers, in a row and in a ring.
        asItWillBe(() -> Check.told("lover 70 0;lover 7 0;lover 77 0;plain 0 66;word 5 3 60;word 9 3 7;"));
        asItWillBe(() -> Check.told("guard 33 0;lover 70 0;lover 7 0;lover 77 0;rock 37;"));
        asItWillBe(() -> Check.told("lover 50 0;lover 7 0;lover 77 0;lover 12 0;rock 20;rock 44;"));
        asItWillBe(() -> Check.told("cynic 33 50;lover 70 0;plain 7 70;lover 77 0;rock 35;word 4 0 3;"));
    }

    private static void asItWillBe(Supplier<AimTunnel> made) {
        for (int n = 0; n <= 20; n++) {
            AimTunnel asked = made.get();
            AimTunnel dug = made.get();
            dug.dig(n);
            for (int d = 0; d < 4; d++) {
                int there = dug.digger(d, 1);
                due("ahead(" + d + ", " + n + ")", asked.ahead(d, n), there);
                int first = asked.reaches(d, there);
                holds("reaches(" + d + ", " + there + ") is by " + n, first >= 0 && first <= n && asked.ahead(d, first) == there);
                due("spread(" + d + ", " + n + ") of lovers", asked.digger(d, 0) == 2 ? asked.spread(d, n) : 1, 1);
                for (int e = 0; e < d; e++) {
                    boolean met = there == dug.digger(e, 1) && dug.digger(d, 5) + dug.digger(e, 5) == 0;
                    int meet = asked.meet(d, e);
                    holds("meet(" + d + ", " + e + ") is by " + n, !met || meet >= 0 && meet <= n);
                    holds("meet(" + d + ", " + e + ") is not at " + n, met || meet != n);
                }
            }
            due("runs(" + n + ", 0)", asked.runs(n, 0), dug.rule(4));
            due("runs(" + n + ", 1)", asked.runs(n, 1), dug.rule(5));
        }
    }

    @Says(promise = 0, value = "BY FEET: as it would be from now on.")
    static void questions_have_no_bearing_on_one_another() {
        List<ToLongFunction<AimTunnel>> questions = List.of(
            x -> x.runs(33, 2), x -> x.ahead(1, 4), x -> x.ahead(2, 9), x -> x.reaches(1, 1), x -> x.reaches(2, 62), x -> x.meet(1, 2),
            x -> x.ring(0), x -> x.ring(1), x -> x.aim(1, 52, 40, 0), x -> x.aim(2, 62, 40, 1), x -> x.words(1, 66), x -> x.words(1, 50),
            x -> x.words(2, 62), x -> x.spread(1, 9), x -> x.block(1, 7), x -> x.block(2, 62), x -> x.luck(3, 1, 30, 0),
            x -> x.mean(3, 30, 0), x -> x.aims(1, 0), x -> x.aims(1, 1), x -> x.kinds(1), x -> x.look(1, 0), x -> x.look(1, 1),
            x -> x.drift(5, 50, 0), x -> x.drift(6, 9, 1));
        for (int i = 0; i < questions.size(); i++) {
            long alone = questions.get(i).applyAsLong(rich());
            for (int j = 0; j < questions.size(); j++) {
                AimTunnel x = rich();
                questions.get(j).applyAsLong(x);
                due("question " + i + " behind question " + j, questions.get(i).applyAsLong(x), alone);
            }
        }
    }

    @Says(promise = 0, value = "Fractions are in lowest terms, the denominator above 0 (0 is 0 by 1).")
    static void fractions_in_lowest_terms() {
        AimTunnel x = Check.told("plain 0 0;plain 1 1;plain 2 2;plain 3 7;");
        int[][] terms = {{1, 1}, {9, 10}, {4, 5}, {7, 10}, {3, 5}, {1, 2}, {2, 5}, {3, 10}, {1, 5}, {1, 10}, {0, 1}};
        for (int v = 0; v <= 10; v++) {
            due("luck(" + v + ", 0, 1, 0)", x.luck(v, 0, 1, 0), terms[v][0]);
            due("luck(" + v + ", 0, 1, 1)", x.luck(v, 0, 1, 1), terms[v][1]);
        }
        due("luck(5, 3, 1, 0)", x.luck(5, 3, 1, 0), 0);
        due("luck(5, 3, 1, 1)", x.luck(5, 3, 1, 1), 1);
        due("mean(10, 1, 0)", x.mean(10, 1, 0), 0);
        due("mean(10, 1, 1)", x.mean(10, 1, 1), 1);
        due("mean(4, 1, 0)", x.mean(4, 1, 0), 9);
        due("mean(4, 1, 1)", x.mean(4, 1, 1), 5);
    }

    @Says(promise = 0, value = "======== 1 THE GROUND: CELLS x and y of 0 to 7, named 10 times x and y;")
    static void cells_x_and_y_of_0_to_7() {
        AimTunnel x = new AimTunnel();
        for (int number = -200; number <= 200; number++) {
            boolean cell = number >= 0 && number / 10 <= 7 && number % 10 <= 7;
            due("rock(" + number + ")", x.rock(number), cell ? 0 : BAD);
        }
        for (int number : NO_CELLS) {
            due("rock(" + number + ")", x.rock(number), BAD);
        }
    }

    @Says(promise = 0, value = "CELLS x and y of 0 to 7, named 10 times x and y;")
    static void cells_are_told_apart() {
        for (int cell = 0; cell <= 77; cell += cell % 10 == 7 ? 3 : 1) {
            AimTunnel x = new AimTunnel();
            x.stone(cell, true);
            for (int other = 0; other <= 77; other += other % 10 == 7 ? 3 : 1) {
                due("rock(" + other + ") with rock in " + cell, x.rock(other), other == cell ? 1 : 0);
            }
        }
    }

    @Says(promise = 0, value = "ROCK in some (8 at most).")
    static void rocks_8_at_most() {
        AimTunnel x = new AimTunnel();
        for (int i = 0; i < 8; i++) {
            due("rock " + (i + 1), x.stone(70 + i, true), 0);
        }
        due("rock 9", x.stone(0, true), FULL);
        due("rocks", x.rule(1), 8);
        x.stone(73, false);
        due("one less, one more", x.stone(0, true), 0);
        due("rock 9 again", x.stone(1, true), FULL);
    }

    @Says(promise = 0, value = "DIGGERS 0 on (4 at most, by order), each of a KIND (0 plain, 1 cynic, 2 lover, 3 guard), AT a CELL, with an AIM (a CELL),")
    static void diggers_4_at_most_by_order() {
        String[] kinds = {"plain", "cynic", "lover", "guard"};
        StringBuilder text = new StringBuilder();
        for (int many = 0; many <= 4; many++) {
            AimTunnel x = Check.told(text.toString());
            due("diggers", x.rule(0), many);
            for (int d = 0; d < many; d++) {
                due("kind", x.digger(d, 0), d);
                due("at", x.digger(d, 1), d == 0 ? 0 : d == 1 ? 77 : 10 * d);
                due("aim", x.digger(d, 2), d == 0 ? 77 : d == 1 ? 0 : 7 * d % 8);
            }
            due("digger(" + many + ", 0)", x.digger(many, 0), BAD);
            due("digger(-1, 0)", x.digger(-1, 0), BAD);
            if (many < 4) {
                text.append(kinds[many]).append(' ').append(many == 0 ? 0 : many == 1 ? 77 : 10 * many).append(' ');
                text.append(many == 0 ? 77 : many == 1 ? 0 : 7 * many % 8).append(';');
            }
        }
    }

    @Says(promise = 0, value = "a HEADING (0 north: y more; 1 east: x more; 2 south: y less; 3 west: x less; 0 at first),")
    static void headings() {
        int[] to = {34, 43, 32, 23};
        for (int h = 0; h < 4; h++) {
            AimTunnel x = Check.told("guard 33 0;");
            due("heading at first", x.alter(0, 3, h), 0);
            x.dig(1);
            due("from 33 by " + h, x.digger(0, 1), to[h]);
            due("heading stays", x.digger(0, 3), h);
        }
    }

    @Says(promise = 0, value = "FAITH (0 to 40; 20 at first), UP or not (not). FOOT (0 at first).")
    static void faith_0_to_40_and_20_at_first() {
        AimTunnel x = Check.told("plain 3 3;");
        due("faith at first", x.digger(0, 4), 20);
        due("up at first", x.digger(0, 5), 0);
        due("who is up at first", x.rule(4), 0);
        due("foot at first", x.rule(3), 0);
        due("faith 0", x.alter(0, 4, 0), 20);
        due("faith 40", x.alter(0, 4, 40), 0);
        due("faith 41", x.alter(0, 4, 41), BAD);
        due("faith -1", x.alter(0, 4, -1), BAD);
        due("faith told 0", Check.told("plain 3 3;faith 0 0;").digger(0, 4), 0);
        due("faith told 40", Check.told("plain 3 3;faith 0 40;").digger(0, 4), 40);
    }

    @Says(promise = 0, value = "WORDS (6 at most): at a FOOT (0 to 20) a DIGGER comes to have another AIM.")
    static void words_6_at_most_at_feet_0_to_20() {
        AimTunnel x = Check.told("guard 0 0;guard 0 0;");
        int[] feet = {0, 20, 1, 19, 0, 20};
        for (int i = 0; i < 6; i++) {
            due("word " + (i + 1), x.tell(feet[i], i % 2, 70 + i), i + 1);
        }
        due("word 7", x.tell(0, 0, 0), FULL);
        int[][] aims = {{0, 0}, {74, 0}, {72, 0}};
        for (int foot = 0; foot < 3; foot++) {
            due("aim of 0 at foot " + foot, x.digger(0, 2), aims[foot][0]);
            due("aim of 1 at foot " + foot, x.digger(1, 2), aims[foot][1]);
            x.dig(1);
        }
        x.dig(16);
        due("aim of 1 at foot 19", x.digger(1, 2), 0);
        x.dig(1);
        due("aim of 1 at foot 20", x.digger(1, 2), 73);
        x.dig(1);
        due("aim of 1 at foot 21", x.digger(1, 2), 75);
    }

    @Says(promise = 0, value = "======== 2 A FOOT: first WORDS of it come (by order; to who is not UP).")
    static void foot_words_come_first_by_order() {
        AimTunnel x = Check.told("plain 0 0;word 1 0 7;word 0 0 70;word 0 0 2;word 1 0 1;");
        x.dig(1);
        due("the later of two words, ahead of his foot", x.digger(0, 1), 1);
        due("his aim", x.digger(0, 2), 2);
        due("so he is not up", x.rule(4), 0);
        x.dig(1);
        due("up at the later of two words", x.rule(4), 1);
    }

    @Says(promise = 0, value = "first WORDS of it come (by order; to who is not UP).")
    static void foot_words_come_at_their_foot_alone() {
        for (int foot = 0; foot <= 4; foot++) {
            AimTunnel x = Check.told("guard 0 0;word 2 0 55;");
            x.dig(foot);
            due("aim behind " + foot, x.digger(0, 2), foot <= 2 ? 0 : 55);
        }
        AimTunnel past = Check.told("guard 0 0;");
        past.dig(3);
        past.tell(2, 0, 55);
        past.dig(20);
        due("a word whose foot is past", past.digger(0, 2), 0);
    }

    @Says(promise = 0, value = "first WORDS of it come (by order; to who is not UP).")
    static void foot_words_do_not_come_to_who_is_up_but_to_who_has_no_faith() {
        AimTunnel x = Check.told("plain 0 0;guard 5 5;faith 1 0;word 1 0 7;word 1 1 7;");
        x.dig(2);
        due("aim of one who is up", x.digger(0, 2), 0);
        due("aim of one without faith", x.digger(1, 2), 7);
    }

    @Says(promise = 0, value = "Then DIGGERS by order, who is not UP: has he FAITH 0, he stays.")
    static void foot_diggers_go_by_order() {
        // Lover 0 looks where 1 is ahead of his foot; lover 1, the last, where 0 is behind his.
        AimTunnel x = Check.told("lover 30 0;lover 31 0;");
        x.dig(1);
        due("lover 0", x.digger(0, 1), 31);
        due("lover 1, there already, goes on by heading 0", x.digger(1, 1), 32);
    }

    @Says(promise = 0, value = "who is not UP: has he FAITH 0, he stays.")
    static void foot_who_is_up_or_has_faith_0_stays() {
        AimTunnel x = Check.told("plain 5 5;plain 6 6;guard 33 0;faith 1 0;faith 2 0;");
        x.dig(1);
        due("up", x.rule(4), 1);
        due("faith of who came up", x.digger(0, 4), 19);
        x.dig(20);
        due("up still", x.rule(4), 1);
        due("faith of who is up", x.digger(0, 4), 19);
        due("where he is", x.digger(0, 1), 5);
        due("who has faith 0 does not come up at his aim", x.digger(1, 5), 0);
        due("nor goes", x.digger(2, 1), 33);
        due("nor turns", x.digger(2, 3), 0);
        due("nor has less", x.digger(2, 4), 0);
    }

    @Says(promise = 0, value = "Else he has FAITH 1 less;")
    static void foot_faith_is_1_less() {
        AimTunnel x = Check.told("plain 0 70;plain 5 5;plain 20 40;guard 77 0;rock 30;faith 0 1;");
        x.dig(1);
        due("faith 1 takes him a foot", x.digger(0, 1), 10);
        due("and is 0 then", x.digger(0, 4), 0);
        due("faith of one who comes up", x.digger(1, 4), 19);
        due("faith of one at a rock", x.digger(2, 4), 19);
        due("faith of one at the end of the ground", x.digger(3, 4), 19);
        x.dig(1);
        due("no foot more", x.digger(0, 1), 10);
        due("no faith less", x.digger(0, 4), 0);
    }

    @Says(promise = 0, value = "what he WANTS: plain: his AIM; lover: where the DIGGER behind him by order is now (behind the last one DIGGER 0; he alone: his AIM);")
    static void foot_what_a_lover_wants() {
        AimTunnel alone = Check.told("lover 33 36;");
        due("alone: his aim", alone.ahead(0, 1), 34);
        AimTunnel last = Check.told("guard 0 0;guard 73 0;lover 33 36;faith 0 0;faith 1 0;");
        due("behind the last one is digger 0", last.ahead(2, 1), 23);
        AimTunnel ofTwo = Check.told("guard 0 0;lover 33 36;faith 0 0;");
        due("behind the last of two is digger 0", ofTwo.ahead(1, 1), 23);
        AimTunnel first = Check.told("lover 33 36;plain 73 73;plain 0 0;");
        due("behind the first one is digger 1", first.ahead(0, 1), 43);
        due("he is wanted also when he is up", first.ahead(0, 4), 73);
        AimTunnel four = Check.told("guard 3 3;guard 4 4;lover 44 77;guard 47 0;faith 3 0;");
        due("behind digger 2 is digger 3", four.ahead(2, 1), 45);
        // Digger 0 has gone by the time that the last one looks.
        AimTunnel gone = Check.told("guard 33 0;lover 43 0;");
        gone.alter(0, 3, 1);
        gone.dig(1);
        due("where digger 0 is now, he is himself: on by heading", gone.digger(1, 1), 44);
    }

    @Says(promise = 0, value = {"plain: his AIM;", "cynic: as a plain one, HEADING 1 on to the right behind that; guard: nothing."})
    static void foot_what_plain_ones_cynics_and_guards_want() {
        for (int kind : new int[] {0, 1, 3}) {
            AimTunnel x = Check.told("plain 33 73;");
            x.alter(0, 0, kind);
            x.dig(1);
            due("kind " + kind + " for 73", x.digger(0, 1), kind == 0 ? 43 : kind == 1 ? 32 : 34);
            due("heading", x.digger(0, 3), kind == 0 ? 1 : kind == 1 ? 2 : 0);
        }
    }

    @Says(promise = 0, value = "He turns: is x of what he WANTS another than his, HEADING is east or west to it; else is y another, north or south;")
    static void foot_he_turns_by_x_and_then_by_y() {
        int[][] turns = {{77, 1, 43}, {70, 1, 43}, {43, 1, 43}, {7, 3, 23}, {0, 3, 23}, {23, 3, 23},
            {37, 0, 34}, {34, 0, 34}, {30, 2, 32}, {32, 2, 32}};
        for (int[] t : turns) {
            AimTunnel x = Check.told("plain 33 " + t[0] + ";");
            x.dig(1);
            due("heading to " + t[0], x.digger(0, 3), t[1]);
            due("the first foot to " + t[0], x.digger(0, 1), t[2]);
        }
    }

    @Says(promise = 0, value = "else he is UP there and stays (a guard, a lover never).")
    static void foot_at_what_he_wants_he_is_up() {
        String[] kinds = {"plain", "cynic", "lover", "guard"};
        for (int kind = 0; kind < 4; kind++) {
            AimTunnel x = Check.told(kinds[kind] + " 33 33;");
            due(kinds[kind] + " is up", x.dig(1), kind < 2 ? 1 : 0);
            due(kinds[kind] + " is there", x.digger(0, 1), kind < 2 ? 33 : 34);
            due(kinds[kind] + " has his heading", x.digger(0, 3), 0);
            AimTunnel near = Check.told(kinds[kind] + " 33 33;faith 0 40;");
            near.dig(20);
            due(kinds[kind] + " behind 40", near.dig(20), kind < 2 ? 1 : 0);
        }
        AimTunnel y = Check.told("plain 33 34;");
        due("he comes there", y.dig(1), 0);
        due("and is up by the next foot", y.dig(1), 1);
    }

    @Says(promise = 0, value = "A cynic has HEADING 1 more (modulo 4) then; a guard keeps HEADING.")
    static void foot_a_cynic_turns_once_more() {
        int[][] turns = {{37, 1, 43}, {73, 2, 32}, {30, 3, 23}, {3, 0, 34}};
        for (int[] t : turns) {
            AimTunnel x = Check.told("cynic 33 " + t[0] + ";");
            x.dig(1);
            due("heading for " + t[0], x.digger(0, 3), t[1]);
            due("the first foot for " + t[0], x.digger(0, 1), t[2]);
        }
        AimTunnel guard = Check.told("guard 33 0;");
        guard.alter(0, 3, 3);
        guard.dig(3);
        due("a guard keeps his heading", guard.digger(0, 3), 3);
        due("and goes by it", guard.digger(0, 1), 3);
    }

    @Says(promise = 0, value = "He goes 1 on by HEADING, if there is a CELL without ROCK; else he stays and HEADING is 1 more (modulo 4).")
    static void foot_at_a_rock_or_the_end_he_stays_and_turns() {
        int[] rock = {34, 43, 32, 23};
        for (int h = 0; h < 4; h++) {
            for (int i = 0; i < 8; i++) {
                int[] edge = {10 * i + 7, 70 + i, 10 * i, i};
                int[] beside = {10 * i + 6, 60 + i, 10 * i + 1, 10 + i};
                AimTunnel end = Check.told("guard " + edge[h] + " 0;");
                end.alter(0, 3, h);
                end.dig(1);
                due("at the end by " + h, end.digger(0, 1), edge[h]);
                due("turned from " + h, end.digger(0, 3), (h + 1) % 4);
                AimTunnel near = Check.told("guard " + beside[h] + " 0;");
                near.alter(0, 3, h);
                near.dig(1);
                due("one ahead of the end by " + h, near.digger(0, 1), edge[h]);
                due("not turned from " + h, near.digger(0, 3), h);
            }
            AimTunnel stopped = Check.told("guard 33 0;rock " + rock[h] + ";");
            stopped.alter(0, 3, h);
            stopped.dig(1);
            due("at a rock by " + h, stopped.digger(0, 1), 33);
            due("turned from " + h, stopped.digger(0, 3), (h + 1) % 4);
        }
        AimTunnel shared = Check.told("plain 33 53;guard 43 0;faith 1 0;");
        due("a digger is no rock", shared.ahead(0, 1), 43);
    }

    @Says(promise = 0, value = "FOOT is 1 more (999 at most).")
    static void foot_999_at_most() {
        AimTunnel x = atFoot("guard 0 0;", 998);
        due("998", x.rule(3), 998);
        x.dig(1);
        due("999", x.rule(3), 999);
        due("no more", x.dig(1), FULL);
        due("999 still", x.rule(3), 999);
        x.alter(0, 4, 40);
        int here = x.digger(0, 1);
        holds("by feet he goes on", x.ahead(0, 3) != here);
        due("drift goes on", x.drift(1, 60, 0), 0);
        due("999 still", x.rule(3), 999);
        AimTunnel nobody = new AimTunnel();
        nobody.dig(7);
        due("feet go by without anybody", nobody.rule(3), 7);
    }

    @Says(promise = 0, value = "TWO MEET behind a FOOT, if both are in one CELL, not UP.")
    static void two_meet_in_one_cell_not_up() {
        due("in one cell", Check.told("guard 0 0;guard 0 0;").runs(1, 2), 1);
        due("side by side", Check.told("guard 0 0;guard 1 0;").runs(1, 2), 0);
        due("both without faith", Check.told("guard 0 0;guard 0 0;faith 0 0;faith 1 0;").runs(1, 2), 1);
        due("both are up", Check.told("plain 0 0;plain 0 0;").runs(1, 2), 0);
        due("the first is up", Check.told("plain 0 0;guard 0 0;faith 1 0;").runs(1, 2), 0);
        due("the second is up", Check.told("guard 0 0;plain 0 0;faith 0 0;").runs(1, 2), 0);
        due("one, alone", Check.told("guard 0 0;").runs(1, 2), 0);
        due("nobody", new AimTunnel().runs(1, 2), 0);
        due("those who change cells do not", Check.told("plain 0 10;plain 10 0;").runs(1, 2), 0);
    }

    @Says(promise = 0, value = "SEEN (6): behind n FEET (0 to 20) from now on a DIGGER is AT a CELL.")
    static void seen_6_at_most() {
        AimTunnel x = Check.told("guard 0 0;");
        int[] feet = {0, 20, 1, 19, 0, 20};
        int[] cells = {0, 73, 1, 72, 0, 73};
        for (int i = 0; i < 6; i++) {
            due("seen " + (i + 1), x.see(0, feet[i], cells[i]), i + 1);
        }
        due("seen 7", x.see(0, 0, 0), FULL);
        due("how many", x.count(0), 6);
        due("see(0, 21, 0)", x.see(0, 21, 0), BAD);
    }

    @Says(promise = 0, value = "SHEETS 0 to 3 are rows of BYTES (lane 0), SHORTS (1), INTS (2) with 0 to 40 CELLS of their own, or nothing (at first).")
    static void sheets_0_to_3_of_0_to_40_cells() {
        for (int k = 0; k < 4; k++) {
            AimTunnel x = new AimTunnel();
            due("nothing at first", x.lay(k, 0, 0), -11);
            for (int lane = 0; lane < 3; lane++) {
                due("sheet(" + k + ", " + lane + ", 0)", x.sheet(k, lane, 0), 1);
                due("lay of 0 cells", x.lay(k, 0, 0), -12);
                due("sheet(" + k + ", " + lane + ", 1)", x.sheet(k, lane, 1), 1);
                due("lay of 1 cell", x.lay(k, 0, 0), 1);
                due("lay behind 1 cell", x.lay(k, 1, 0), -12);
                due("sheet(" + k + ", " + lane + ", 40)", x.sheet(k, lane, 40), 1);
                due("lay of the 40th", x.lay(k, 39, 0), 1);
                due("lay of the 41st", x.lay(k, 40, 0), -12);
            }
        }
    }

    @Says(promise = 0, value = "INTS (2) with 0 to 40 CELLS of their own")
    static void sheets_have_cells_of_their_own() {
        AimTunnel x = Check.told("guard 0 0;guard 1 1;guard 2 2;guard 3 3;");
        for (int k = 0; k < 4; k++) {
            x.sheet(k, 2, 40);
            layAll(x, k, k, 70 + k);
            x.lay(k, 38, 3 - k);
            x.lay(k, 39, 60 + k);
        }
        for (int k = 0; k < 4; k++) {
            due("read of sheet " + k, x.read(k, 2, 0, 1), 1);
            due("aim of " + k, x.digger(k, 2), 70 + k);
        }
        for (int k = 0; k < 4; k++) {
            due("read of the end of sheet " + k, x.read(k, 2, 38, 1), 1);
            due("aim of " + (3 - k), x.digger(3 - k, 2), 60 + k);
        }
    }

    @Says(promise = 0, value = "A FAULT is what the machine finds: 1 NULL (nothing), 2 INDEX, 3 CAST (another lane), 4 SIZE (below 0).")
    static void faults_of_the_machine() {
        AimTunnel x = Check.told("guard 0 0;");
        due("NULL", x.lay(0, 0, 0), -11);
        due("SIZE", x.sheet(0, 0, -1), -14);
        x.read(0, 0, 0, 1);
        due("NULL", x.torn(), 1);
        x.sheet(0, 0, 2);
        due("INDEX", x.lay(0, 2, 0), -12);
        x.read(0, 0, 1, 1);
        due("INDEX", x.torn(), 2);
        x.read(0, 1, 0, 1);
        due("CAST", x.torn(), 3);
        x.read(0, 0, 0, 1);
        due("none", x.torn(), 0);
    }
}
