/** Promises 10 to 13: alter, stone, tell, hush. */
public final class ChangeTest {
    private static final Check check = new Check();

    public static void main(String[] args) {
        alter();
        stone();
        tellAndHush();
        check.finish();
    }

    private static void alter() {
        AimTunnel x = Check.told("plain 11 13;guard 7 7;plain 5 5;");
        check.due("alter kind", x.alter(0, 0, 3), 0);
        check.due("alter kind again", x.alter(0, 0, 0), 3);
        check.due("alter aim", x.alter(0, 2, 77), 13);
        check.due("alter aim again", x.alter(0, 2, 0), 77);
        check.due("alter heading", x.alter(0, 3, 3), 0);
        check.due("alter heading again", x.alter(0, 3, 1), 3);
        check.due("alter faith", x.alter(0, 4, 40), 20);
        check.due("alter faith again", x.alter(0, 4, 0), 40);
        int[] now = {0, 11, 0, 1, 0, 0};
        for (int what = 0; what <= 5; what++) {
            check.due("digger(0, " + what + ")", x.digger(0, what), now[what]);
        }
        int[][] bad = {{-1, 0, 0}, {3, 0, 0}, {0, 1, 0}, {0, 5, 0}, {0, 6, 0}, {0, -1, 0}, {0, 0, 4}, {0, 0, -1},
            {0, 2, 8}, {0, 2, 78}, {0, 2, 80}, {0, 2, -1}, {0, 3, 4}, {0, 3, -1}, {0, 4, 41}, {0, 4, -1}};
        for (int[] b : bad) {
            check.due("alter(" + b[0] + ", " + b[1] + ", " + b[2] + ")", x.alter(b[0], b[1], b[2]), -1);
        }
        x.dig(1);
        check.due("alter of one who is up", x.alter(2, 2, 0), -2);
        check.due("bad alter of one who is up", x.alter(2, 2, 8), -1);
        check.due("digger(2, 2)", x.digger(2, 2), 5);
        check.due("alter of a guard in a corner", x.alter(1, 3, 0), 1);
    }

    private static void stone() {
        AimTunnel x = Check.told("plain 11 11;plain 12 0;faith 1 0;");
        check.due("stone(8, true)", x.stone(8, true), -1);
        check.due("stone(80, false)", x.stone(80, false), -1);
        check.due("stone(-1, false)", x.stone(-1, false), -1);
        check.due("stone(12, true)", x.stone(12, true), -2);
        x.dig(1);
        check.due("stone under one who is up", x.stone(11, true), -2);
        check.due("stone(12, false)", x.stone(12, false), 0);
        for (int i = 0; i < 8; i++) {
            check.due("stone " + i, x.stone(i * 10, true), 0);
        }
        check.due("rule(1)", x.rule(1), 8);
        check.due("stone(0, true) again", x.stone(0, true), 1);
        check.due("the 9th", x.stone(77, true), -3);
        check.due("the 9th where one is", x.stone(12, true), -2);
        check.due("stone(77, false)", x.stone(77, false), 0);
        check.due("stone(70, false)", x.stone(70, false), 1);
        check.due("stone(70, false) again", x.stone(70, false), 0);
        check.due("rock(70)", x.rock(70), 0);
        check.due("the 8th", x.stone(77, true), 0);
        check.due("rock(77)", x.rock(77), 1);
    }

    private static void tellAndHush() {
        AimTunnel x = Check.told("plain 0 77;guard 5 5;");
        check.due("tell(-1, 0, 0)", x.tell(-1, 0, 0), -1);
        check.due("tell(21, 0, 0)", x.tell(21, 0, 0), -1);
        check.due("tell(0, 2, 0)", x.tell(0, 2, 0), -1);
        check.due("tell(0, -1, 0)", x.tell(0, -1, 0), -1);
        check.due("tell(0, 0, 8)", x.tell(0, 0, 8), -1);
        for (int i = 0; i < 6; i++) {
            check.due("tell " + i, x.tell(20 - i, i & 1, 70 + i), i + 1);
        }
        check.due("the 7th", x.tell(0, 0, 0), -3);
        check.due("a bad 7th", x.tell(21, 0, 0), -1);
        check.due("word(5, 0)", x.word(5, 0), 15);
        check.due("word(5, 1)", x.word(5, 1), 1);
        check.due("word(5, 2)", x.word(5, 2), 75);
        check.due("hush(7)", x.hush(7), -1);
        check.due("hush(-1)", x.hush(-1), -1);
        check.due("hush(6)", x.hush(6), 6);
        check.due("hush(2)", x.hush(2), 6);
        check.due("hush(3)", x.hush(3), -1);
        check.due("word(2, 0)", x.word(2, 0), -1);
        check.due("word(1, 0)", x.word(1, 0), 19);
        check.due("tell behind hush", x.tell(1, 0, 1), 3);
        check.due("hush(0)", x.hush(0), 3);
        check.due("rule(2)", x.rule(2), 0);
        AimTunnel nobody = new AimTunnel();
        check.due("tell to nobody", nobody.tell(0, 0, 0), -1);
    }
}
