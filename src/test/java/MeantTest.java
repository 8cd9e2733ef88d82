/** Promises 26 to 31: see, forget, aims, kinds, look, drift. */
public final class MeantTest {
    private static final Check check = new Check();

    public static void main(String[] args) {
        seeAndForget();
        aims();
        kinds();
        look();
        drift();
        check.finish();
    }

    private static void seeAndForget() {
        AimTunnel x = Check.told("plain 0 77;guard 0 0;");
        int[][] bad = {{2, 0, 0}, {-1, 0, 0}, {0, 21, 0}, {0, -1, 0}, {0, 0, 8}, {0, 0, 80}, {0, 0, -1}};
        for (int[] b : bad) {
            check.due("see(" + b[0] + ", " + b[1] + ", " + b[2] + ")", x.see(b[0], b[1], b[2]), -1);
        }
        for (int i = 1; i <= 6; i++) {
            check.due("see " + i, x.see(i & 1, 20, 77), i);
        }
        check.due("the 7th", x.see(0, 0, 0), -3);
        check.due("a bad 7th", x.see(0, 21, 0), -1);
        check.due("forget(7)", x.forget(7), -1);
        check.due("forget(-1)", x.forget(-1), -1);
        check.due("forget(6)", x.forget(6), 6);
        check.due("forget(2)", x.forget(2), 6);
        check.due("count(0)", x.count(0), 2);
        check.due("forget(3)", x.forget(3), -1);
        check.due("see behind forget", x.see(0, 0, 0), 3);
        check.due("forget(0)", x.forget(0), 3);
        check.due("forget(0) of none", x.forget(0), 0);
        check.due("nobody is seen", new AimTunnel().see(0, 0, 0), -1);
    }

    private static void aims() {
        AimTunnel x = Check.told("plain 0 77;guard 3 0;");
        fits(x, 0, 64, 0);
        x.see(0, 2, 20);
        fits(x, 0, 48, 20);
        x.see(0, 3, 21);
        fits(x, 0, 7, 21);
        x.see(0, 20, 27);
        fits(x, 0, 1, 27);
        fits(x, 1, 0, -4);
        x.see(1, 1, 5);
        fits(x, 0, 0, -4);
        x.forget(1);
        fits(x, 0, 48, 20);
        check.due("aims(2, 0)", x.aims(2, 0), -1);
        check.due("aims(-1, 0)", x.aims(-1, 0), -1);
        check.due("aims(0, 2)", x.aims(0, 2), -1);
        check.due("aims(0, -1)", x.aims(0, -1), -1);
        check.due("his aim stays", x.digger(0, 2), 77);
        AimTunnel now = Check.told("plain 0 77;");
        now.see(0, 0, 0);
        fits(now, 0, 64, 0);
        now.see(0, 0, 1);
        fits(now, 0, 0, -4);
        // Where the follower went tells what the one whom he follows meant.
        AimTunnel follower = Check.told("lover 0 0;plain 1 0;");
        follower.see(0, 2, 11);
        fits(follower, 1, 56, 10);
        // It is seen from now on, also when feet have been dug since.
        AimTunnel dug = Check.told("plain 0 77;");
        dug.see(0, 1, 20);
        fits(dug, 0, 0, -4);
        dug.dig(1);
        fits(dug, 0, 48, 20);
        // One who is up stays, whatever he means.
        AimTunnel up = Check.told("plain 5 5;");
        up.see(0, 3, 5);
        up.dig(1);
        fits(up, 0, 64, 0);
    }

    private static void fits(AimTunnel x, int d, int many, int first) {
        check.due("aims(" + d + ", 0)", x.aims(d, 0), many);
        check.due("aims(" + d + ", 1)", x.aims(d, 1), first);
    }

    private static void kinds() {
        AimTunnel x = Check.told("plain 0 77;guard 3 0;");
        check.due("kinds(0)", x.kinds(0), 15);
        check.due("kinds(2)", x.kinds(2), -1);
        check.due("kinds(-1)", x.kinds(-1), -1);
        x.see(1, 1, 4);
        check.due("kinds(1)", x.kinds(1), 8);
        AimTunnel alone = Check.told("guard 0 77;");
        alone.see(0, 1, 10);
        check.due("alone, east", alone.kinds(0), 5);
        alone.forget(0);
        alone.see(0, 1, 1);
        check.due("alone, north", alone.kinds(0), 8);
        alone.forget(0);
        alone.see(0, 1, 0);
        check.due("alone, nowhere", alone.kinds(0), 2);
        alone.see(0, 2, 77);
        check.due("alone, too far", alone.kinds(0), 0);
        check.due("his kind stays", alone.digger(0, 0), 3);
        AimTunnel two = Check.told("guard 33 3;guard 53 0;");
        two.see(0, 1, 43);
        check.due("a lover goes to the other", two.kinds(0), 4);
    }

    private static void look() {
        looks("plain 0 77;", 14, 1);
        looks("plain 0 77;faith 0 5;", 5, 24);
        looks("plain 0 77;faith 0 0;", -4, -4);
        looks("guard 0 77;", -4, -4);
        looks("cynic 30 52;rock 33;faith 0 40;word 19 0 2;", 20, 32);
        looks("lover 0 77;plain 5 5;", -4, -4);
        AimTunnel x = Check.told("plain 0 77;");
        x.see(0, 2, 20);
        x.see(0, 3, 21);
        check.due("look(0, 0) of 7 left", x.look(0, 0), 9);
        check.due("look(0, 1) of 7 left", x.look(0, 1), 1);
        x.see(0, 20, 27);
        check.due("look(0, 0) of one left", x.look(0, 0), -4);
        x.see(0, 0, 1);
        check.due("look(0, 0) of none left", x.look(0, 0), -4);
        check.due("look(0, 1) of none left", x.look(0, 1), -4);
        check.due("look(1, 0)", x.look(1, 0), -1);
        check.due("look(-1, 0)", x.look(-1, 0), -1);
        check.due("look(0, 2)", x.look(0, 2), -1);
        check.due("look(0, -1)", x.look(0, -1), -1);
        check.due("his aim stays", x.digger(0, 2), 77);
        AimTunnel late = Check.told("plain 0 77;rock 10;rock 1;");
        check.due("walled in", late.look(0, 0), -4);
    }

    private static void looks(String text, int feet, int left) {
        check.due(text + " look(0, 0)", Check.told(text).look(0, 0), feet);
        check.due(text + " look(0, 1)", Check.told(text).look(0, 1), left);
    }

    private static void drift() {
        AimTunnel x = Check.told("plain 0 77;");
        // 0 gives 12345, of which nothing is got: digger 0 means cell 0.
        check.due("drift(0, 1, 0)", x.drift(0, 1, 0), 1);
        check.due("drift(0, 1, 1)", x.drift(0, 1, 1), 0);
        check.due("drift(0, 60, 1)", x.drift(0, 60, 1), 0);
        // 1 gives 16838, 5758, 10113: cells 7, 71, 6.
        check.due("drift(1, 1, 1)", x.drift(1, 1, 1), 1);
        check.due("drift(1, 2, 1)", x.drift(1, 2, 1), 11);
        check.due("drift(1, 3, 1)", x.drift(1, 3, 1), 1);
        check.due("drift(1, 3, 0)", x.drift(1, 3, 0), 0);
        // The fourth is 17515: cell 51; the fifth 31051: cell 15.
        check.due("drift(1, 4, 1)", x.drift(1, 4, 1), 11);
        check.due("drift(1, 5, 1)", x.drift(1, 5, 1), 12);
        // Among three, 16838 is of digger 2, 5758 of digger 1, 10113 of digger 0.
        AimTunnel three = Check.told("plain 0 70;plain 50 0;plain 7 7;");
        check.due("drift(1, 1, 0) of three", three.drift(1, 1, 0), 4);
        check.due("drift(1, 2, 1) of three", three.drift(1, 2, 1), 20);
        check.due("drift(1, 3, 1) of three", three.drift(1, 3, 1), 10);
        check.due("nothing has been dug", three.rule(3), 0);
        check.due("nobody means another thing", three.digger(2, 2), 7);
        check.due("nobody has gone", three.digger(0, 1), 0);
        // A word comes behind what is got, so it stays.
        AimTunnel told = Check.told("plain 0 77;word 0 0 50;");
        check.due("drift(1, 1, 1) with a word", told.drift(1, 1, 1), 10);
        check.due("a seed below 0", x.drift(-1, 1, 1) >= 0 ? 1 : 0, 1);
        int[][] bad = {{0, 0}, {-1, 0}, {61, 0}, {1, 2}, {1, -1}};
        for (int[] b : bad) {
            check.due("drift(5, " + b[0] + ", " + b[1] + ")", x.drift(5, b[0], b[1]), -1);
        }
        check.due("drift of nobody", new AimTunnel().drift(5, 1, 0), -2);
        check.due("bad drift of nobody", new AimTunnel().drift(5, 0, 0), -1);
    }
}
