/** Promises 32 to 38: keep, back, sheet, lay, read, torn, count. */
public final class SheetsTest {
    private static final Check check = new Check();

    public static void main(String[] args) {
        images();
        sheets();
        lanes();
        read();
        readRefused();
        readTorn();
        readAtTheLastFoot();
        counts();
        check.finish();
    }

    private static void images() {
        AimTunnel x = Check.told("plain 0 77;guard 5 5;rock 10;word 3 0 4;faith 1 3;");
        check.due("keep(-1)", x.keep(-1), -1);
        check.due("keep(2)", x.keep(2), -1);
        check.due("back(-1)", x.back(-1), -1);
        check.due("back(2)", x.back(2), -1);
        check.due("back(0) of none", x.back(0), -2);
        x.see(0, 1, 0);
        x.dig(2);
        check.due("keep(1)", x.keep(1), 0);
        check.due("back(0) of none yet", x.back(0), -2);
        check.due("keep(1) again", x.keep(1), 1);
        check.due("count(1)", x.count(1), 1);
        x.alter(0, 0, 1);
        x.alter(0, 2, 50);
        x.alter(0, 3, 3);
        x.alter(0, 4, 40);
        x.stone(10, false);
        x.stone(20, true);
        x.hush(0);
        x.forget(0);
        x.sheet(2, 1, 3);
        x.dig(20);
        check.due("keep(0)", x.keep(0), 0);
        check.due("back(1)", x.back(1), 2);
        int[][] due = {{0, 0, 77, 2, 18, 0}, {3, 7, 5, 0, 1, 0}};
        for (int d = 0; d < 2; d++) {
            for (int what = 0; what <= 5; what++) {
                check.due("back: digger(" + d + ", " + what + ")", x.digger(d, what), due[d][what]);
            }
        }
        check.due("back: rock(10)", x.rock(10), 1);
        check.due("back: rock(20)", x.rock(20), 0);
        check.due("back: word(0, 2)", x.word(0, 2), 4);
        check.due("back: count(0)", x.count(0), 1);
        check.due("back: aims(0, 0)", x.aims(0, 0), 57);
        check.due("back: the sheet stays", x.lay(2, 2, 1), 1);
        x.dig(1);
        check.due("back(1) again", x.back(1), 2);
        check.due("back(0)", x.back(0), 22);
        check.due("digger(0, 0)", x.digger(0, 0), 1);
        check.due("count(1)", x.count(1), 2);
        AimTunnel up = Check.told("plain 0 0;");
        up.keep(0);
        up.dig(1);
        up.keep(1);
        up.back(0);
        check.due("not up", up.rule(4), 0);
        up.back(1);
        check.due("up", up.rule(4), 1);
    }

    private static void sheets() {
        AimTunnel x = new AimTunnel();
        check.due("sheet(-1, 0, 1)", x.sheet(-1, 0, 1), -1);
        check.due("sheet(4, 0, 1)", x.sheet(4, 0, 1), -1);
        check.due("sheet(0, -1, 1)", x.sheet(0, -1, 1), -1);
        check.due("sheet(0, 3, 1)", x.sheet(0, 3, 1), -1);
        check.due("sheet(0, 0, 41)", x.sheet(0, 0, 41), -1);
        check.due("sheet(0, 3, -1)", x.sheet(0, 3, -1), -1);
        check.due("sheet(0, 0, -1)", x.sheet(0, 0, -1), -14);
        check.due("nothing yet", x.count(3), -4);
        check.due("sheet(0, 0, 40)", x.sheet(0, 0, 40), 1);
        check.due("count(3)", x.count(3), 40);
        check.due("sheet(0, 0, -5)", x.sheet(0, 0, -5), -14);
        check.due("the old one stays", x.count(3), 40);
        check.due("lay(0, 39, 1)", x.lay(0, 39, 1), 1);
        check.due("lay(0, 40, 1)", x.lay(0, 40, 1), -12);
        check.due("lay(0, -1, 1)", x.lay(0, -1, 1), -12);
        check.due("lay(1, 0, 1)", x.lay(1, 0, 1), -11);
        check.due("lay(1, -1, 1)", x.lay(1, -1, 1), -11);
        check.due("lay(4, 0, 1)", x.lay(4, 0, 1), -1);
        check.due("lay(-1, 0, 1)", x.lay(-1, 0, 1), -1);
        check.due("sheet(0, 2, 0)", x.sheet(0, 2, 0), 1);
        check.due("count(3) of an empty one", x.count(3), 0);
        check.due("lay(0, 0, 1) of an empty one", x.lay(0, 0, 1), -12);
        check.due("torn()", x.torn(), 0);
        for (int k = 0; k < 4; k++) {
            check.due("sheet(" + k + ", 2, 40)", x.sheet(k, 2, 40), 1);
            check.due("lay(" + k + ", 39, 1)", x.lay(k, 39, 1), 1);
        }
    }

    /** A lane keeps the lowest bits; a new row is of zeros. */
    private static void lanes() {
        aimLaid(0, 256 + 12, 12);
        aimLaid(0, 65536 + 12, 12);
        aimLaid(0, -256 + 12, 12);
        aimLaid(0, 128, -20);
        aimLaid(0, -1, -20);
        aimLaid(1, 256 + 12, -20);
        aimLaid(1, 65536 + 12, 12);
        aimLaid(1, 32768, -20);
        aimLaid(2, 65536 + 12, -20);
        aimLaid(2, 12, 12);
        aimLaid(2, Integer.MIN_VALUE, -20);
        AimTunnel x = Check.told("plain 0 77;");
        x.sheet(0, 2, 2);
        x.lay(0, 0, 9);
        x.lay(0, 1, 50);
        x.sheet(0, 2, 2);
        x.read(0, 2, 0, 1);
        check.due("a new row is of zeros", x.digger(0, 2), 0);
        x.sheet(1, 0, 40);
        x.sheet(2, 0, 40);
        x.lay(1, 39, 9);
        x.lay(2, 0, 1);
        check.due("rows are their own", x.read(2, 0, 38, 1), -20);
        check.due("rows are their own", x.read(1, 0, 0, 1), -20);
    }

    private static void aimLaid(int lane, int v, int want) {
        AimTunnel x = Check.told("guard 0 77;");
        x.sheet(3, lane, 2);
        x.lay(3, 1, v);
        int got = x.read(3, lane, 0, 1);
        check.due("lane " + lane + " of " + v, got == 1 ? x.digger(0, 2) : got, want);
    }

    private static AimTunnel withSheet(String text, int lane, int... cells) {
        AimTunnel x = Check.told(text);
        x.sheet(1, lane, cells.length);
        for (int i = 0; i < cells.length; i++) {
            x.lay(1, i, cells[i]);
        }
        return x;
    }

    private static void read() {
        AimTunnel x = withSheet("plain 0 77;plain 70 70;", 1, 9, 0, 7, 1, 20, 0, 40);
        check.due("he of the second is up by then", x.read(1, 1, 1, 3), -21);
        AimTunnel y = withSheet("plain 0 77;plain 70 60;faith 1 1;", 1, 9, 0, 7, 1, 20, 0, 40);
        check.due("read(1, 1, 1, 0)", y.read(1, 1, 1, 0), 0);
        check.due("rule(3)", y.rule(3), 0);
        check.due("read(1, 1, 1, 3)", y.read(1, 1, 1, 3), 3);
        check.due("torn()", y.torn(), 0);
        check.due("rule(3)", y.rule(3), 3);
        check.due("digger(0, 1)", y.digger(0, 1), 12);
        check.due("digger(0, 2)", y.digger(0, 2), 40);
        check.due("digger(1, 1)", y.digger(1, 1), 60);
        check.due("digger(1, 2)", y.digger(1, 2), 20);
        int[][] bad = {{-1, 0, 0, 0}, {4, 0, 0, 0}, {0, -1, 0, 0}, {0, 3, 0, 0}, {0, 0, 0, -1}, {0, 0, 0, 21}};
        for (int[] b : bad) {
            check.due("read(" + b[0] + ", " + b[1] + ", " + b[2] + ", " + b[3] + ")", y.read(b[0], b[1], b[2], b[3]), -1);
        }
        AimTunnel most = Check.told("guard 0 77;");
        most.sheet(0, 2, 40);
        check.due("read(0, 2, 0, 20)", most.read(0, 2, 0, 20), 20);
        check.due("torn()", most.torn(), 0);
    }

    private static void readRefused() {
        AimTunnel x = withSheet("plain 0 77;guard 5 5;", 0, 0, 50, 1, 8, 0);
        x.read(1, 1, 0, 1);
        check.due("torn()", x.torn(), 3);
        check.due("the second aim is none", x.read(1, 0, 0, 2), -21);
        check.due("none came", x.rule(3), 0);
        check.due("none came", x.digger(0, 2), 77);
        check.due("none came", x.digger(0, 1), 0);
        check.due("none came", x.digger(1, 1), 5);
        check.due("it came to no end", x.torn(), 3);
        check.due("refused ahead of the machine", x.read(1, 0, 0, 3), -21);
        x.lay(1, 2, 2);
        x.lay(1, 3, 7);
        check.due("the second digger is none", x.read(1, 0, 0, 2), -21);
        x.lay(1, 0, -1);
        check.due("the first digger is none", x.read(1, 0, 0, 2), -20);
        // He is up behind the first foot, so that the next word to him is refused.
        AimTunnel up = withSheet("plain 0 77;", 2, 0, 0, 0, 5);
        check.due("he came up", up.read(1, 2, 0, 2), -21);
        check.due("none came", up.rule(4), 0);
        check.due("he comes up", up.read(1, 2, 0, 1), 1);
        check.due("he is up", up.rule(4), 1);
        check.due("he was up", up.read(1, 2, 2, 1), -20);
    }

    private static void readTorn() {
        AimTunnel x = withSheet("plain 0 77;guard 5 5;", 0, 0, 50, 1, 7, 0);
        check.due("the third is not whole", x.read(1, 0, 0, 3), 2);
        check.due("torn() INDEX", x.torn(), 2);
        check.due("two came", x.rule(3), 2);
        check.due("two came", x.digger(0, 2), 50);
        check.due("read to the end", x.read(1, 0, 0, 2), 2);
        check.due("torn() of a whole one", x.torn(), 0);
        check.due("another lane", x.read(1, 2, 0, 2), 0);
        check.due("torn() CAST", x.torn(), 3);
        check.due("bad", x.read(1, 0, 0, 21), -1);
        check.due("torn() stays", x.torn(), 3);
        check.due("nothing", x.read(0, 0, 0, 1), 0);
        check.due("torn() NULL", x.torn(), 1);
        int[] places = {-1, 5, 40, Integer.MAX_VALUE, Integer.MIN_VALUE};
        for (int f : places) {
            check.due("read(1, 0, " + f + ", 1)", x.read(1, 0, f, 1), 0);
            check.due("torn() of " + f, x.torn(), 2);
        }
        check.due("half a word", x.read(1, 0, 4, 1), 0);
        check.due("torn() of half a word", x.torn(), 2);
        check.due("nothing is read", x.read(1, 0, 99, 0), 0);
        check.due("so nothing is torn", x.torn(), 0);
        check.due("rule(3)", x.rule(3), 4);
    }

    private static void readAtTheLastFoot() {
        AimTunnel x = withSheet("guard 0 77;", 0, 0, 1, 0, 2, 0);
        for (int i = 0; i < 49; i++) {
            x.dig(20);
        }
        x.dig(18);
        check.due("rule(3)", x.rule(3), 998);
        check.due("the second is too many", x.read(1, 0, 0, 2), -21);
        check.due("rule(3)", x.rule(3), 998);
        check.due("one foot is left", x.read(1, 0, 2, 1), 1);
        check.due("rule(3)", x.rule(3), 999);
        check.due("none is left", x.read(1, 0, 0, 1), -20);
        check.due("the machine is met first", x.read(1, 0, 4, 1), 0);
        check.due("torn()", x.torn(), 2);
        check.due("none is asked for", x.read(1, 0, 0, 0), 0);
    }

    private static void counts() {
        AimTunnel x = Check.told("plain 0 77;guard 5 5;faith 1 7;");
        check.due("count(4)", x.count(4), 27);
        x.dig(1);
        check.due("count(4)", x.count(4), 25);
        check.due("count(0)", x.count(0), 0);
        x.see(0, 0, 0);
        check.due("count(0)", x.count(0), 1);
        x.feed(1);
        check.due("count(2)", x.count(2), 1);
        check.due("count(-1)", x.count(-1), -1);
        check.due("count(5)", x.count(5), -1);
    }
}
