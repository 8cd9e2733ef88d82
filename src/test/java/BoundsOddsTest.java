/** The boundary sentences of promises 24 and 25. */
public final class BoundsOddsTest extends Bounds {
    public static void main(String[] args) throws ReflectiveOperationException {
        run(BoundsOddsTest.class);
    }

    /** 0 is up by a foot, 3 by 8; 1 has no faith, 2 comes up never. */
    private static AimTunnel four() {
        return Check.told("plain 5 5;cynic 7 7;lover 2 2;plain 0 70;faith 1 0;");
    }

    private static void lucks(AimTunnel x, int v, int d, int n, long above, long below) {
        due("luck(" + v + ", " + d + ", " + n + ", 0)", x.luck(v, d, n, 0), above);
        due("luck(" + v + ", " + d + ", " + n + ", 1)", x.luck(v, d, n, 1), below);
    }

    private static void means(AimTunnel x, int v, int n, long above, long below) {
        due("mean(" + v + ", " + n + ", 0)", x.mean(v, n, 0), above);
        due("mean(" + v + ", " + n + ", 1)", x.mean(v, n, 1), below);
    }

    // ---- promise 24

    @Says(promise = 24, value = "Each DIGGER loses his FAITH now (it is 0 then) by v out of ten (0 to 10), by himself:")
    static void p24_luck_v_of_0_to_10() {
        lucks(four(), 0, 0, 1, 1, 1);
        lucks(four(), 1, 0, 1, 9, 10);
        lucks(four(), 9, 0, 1, 1, 10);
        lucks(four(), 10, 0, 1, 0, 1);
        // Others that lose theirs are nothing to him.
        for (int v = 0; v <= 10; v++) {
            AimTunnel alone = Check.told("plain 5 5;");
            due("luck of one among four", four().luck(v, 0, 40, 0), alone.luck(v, 0, 40, 0));
            due("luck of one among four", four().luck(v, 0, 40, 1), alone.luck(v, 0, 40, 1));
        }
        // He who has none has none to lose; he who is up has no need of it.
        lucks(four(), 0, 1, 40, 0, 1);
        AimTunnel up = four();
        up.dig(1);
        lucks(up, 10, 0, 0, 1, 1);
        lucks(up, 10, 0, 40, 1, 1);
        unchanged(Bounds::rich, "luck(5, 1, 40, 0)", x -> x.luck(5, 1, 40, 0));
        unchanged(Bounds::rich, "luck(10, 0, 0, 1)", x -> x.luck(10, 0, 0, 1));
    }

    @Says(promise = 24, value = "that a DIGGER is UP behind n FEET (0 to 40): 0, 1.")
    static void p24_luck_behind_0_to_40_feet() {
        lucks(four(), 5, 0, 0, 0, 1);
        lucks(four(), 5, 0, 1, 1, 2);
        lucks(four(), 5, 3, 7, 0, 1);
        lucks(four(), 5, 3, 8, 1, 2);
        lucks(four(), 5, 3, 40, 1, 2);
        lucks(four(), 0, 2, 40, 0, 1);
        AimTunnel late = Check.told("plain 0 7;word 7 0 0;word 14 0 3;word 17 0 0;word 20 0 77;faith 0 40;");
        lucks(late, 3, 0, 34, 0, 1);
        lucks(late, 3, 0, 35, 7, 10);
    }

    @Says(promise = 24, value = "BAD.")
    static void p24_luck_BAD() {
        eachRefused(Bounds::rich, "luck v", BAD, (x, v) -> x.luck(v, 0, 0, 0), LEAST, -1, 11, MOST);
        eachRefused(Bounds::rich, "luck d", BAD, (x, v) -> x.luck(5, v, 0, 0), LEAST, -1, 4, MOST);
        eachRefused(Bounds::rich, "luck n", BAD, (x, v) -> x.luck(5, 0, v, 0), LEAST, -1, 41, MOST);
        eachRefused(Bounds::rich, "luck what", BAD, (x, v) -> x.luck(5, 0, 0, v), LEAST, -1, 2, MOST);
        eachRefused(AimTunnel::new, "luck of nobody", BAD, (x, v) -> x.luck(5, v, 0, 0), -1, 0);
        due("luck(5, 1, 0, 0) of one", Check.told("guard 0 0;").luck(5, 1, 0, 0), BAD);
    }

    // ---- promise 25

    @Says(promise = 25, value = "Likewise, the mean of how many are UP behind n FEET: 0, 1.")
    static void p25_mean_of_how_many() {
        means(four(), 0, 0, 0, 1);
        means(four(), 0, 1, 1, 1);
        means(four(), 0, 7, 1, 1);
        means(four(), 0, 8, 2, 1);
        means(four(), 0, 40, 2, 1);
        means(four(), 1, 40, 9, 5);
        means(four(), 5, 40, 1, 1);
        means(four(), 9, 40, 1, 5);
        means(four(), 10, 40, 0, 1);
        AimTunnel up = four();
        up.dig(1);
        means(up, 10, 0, 1, 1);
        means(up, 5, 40, 3, 2);
        means(new AimTunnel(), 5, 40, 0, 1);
        means(Check.told("plain 5 5;"), 3, 1, 7, 10);
        means(Check.told("plain 5 5;plain 5 5;plain 5 5;plain 5 5;"), 1, 1, 18, 5);
        unchanged(Bounds::rich, "mean(5, 40, 0)", x -> x.mean(5, 40, 0));
    }

    @Says(promise = 25, value = "BAD.")
    static void p25_mean_BAD() {
        eachRefused(Bounds::rich, "mean v", BAD, (x, v) -> x.mean(v, 0, 0), LEAST, -1, 11, MOST);
        eachRefused(Bounds::rich, "mean n", BAD, (x, v) -> x.mean(5, v, 0), LEAST, -1, 41, MOST);
        eachRefused(Bounds::rich, "mean what", BAD, (x, v) -> x.mean(5, 0, v), LEAST, -1, 2, MOST);
        eachRefused(AimTunnel::new, "mean v of nobody", BAD, (x, v) -> x.mean(v, 0, 0), -1, 11);
    }
}
