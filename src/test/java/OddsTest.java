/** Promises 24, 25: luck, mean. */
public final class OddsTest {
    private static final Check check = new Check();

    public static void main(String[] args) {
        luck();
        mean();
        check.finish();
    }

    private static void luck() {
        AimTunnel x = Check.told("plain 0 0;cynic 1 1;lover 2 2;plain 0 3;");
        lucks(x, 3, 0, 1, 7, 10);
        lucks(x, 4, 0, 1, 3, 5);
        lucks(x, 3, 1, 1, 7, 10);
        lucks(x, 3, 2, 40, 0, 1);
        lucks(x, 3, 0, 0, 0, 1);
        lucks(x, 0, 0, 1, 1, 1);
        lucks(x, 10, 0, 1, 0, 1);
        lucks(x, 5, 3, 3, 0, 1);
        lucks(x, 5, 3, 4, 1, 2);
        lucks(x, 8, 3, 40, 1, 5);
        int[][] bad = {{-1, 0, 0, 0}, {11, 0, 0, 0}, {5, 4, 0, 0}, {5, -1, 0, 0}, {5, 0, -1, 0}, {5, 0, 41, 0}, {5, 0, 0, 2}, {5, 0, 0, -1}};
        for (int[] b : bad) {
            check.due("luck(" + b[0] + ", " + b[1] + ", " + b[2] + ", " + b[3] + ")", x.luck(b[0], b[1], b[2], b[3]), -1);
        }
        check.due("nobody has lost faith", x.count(4), 80);
        x.dig(1);
        lucks(x, 10, 0, 0, 1, 1);
        check.due("nobody is there", new AimTunnel().luck(5, 0, 0, 0), -1);
    }

    private static void lucks(AimTunnel x, int v, int d, int n, long above, long below) {
        check.due("luck(" + v + ", " + d + ", " + n + ", 0)", x.luck(v, d, n, 0), above);
        check.due("luck(" + v + ", " + d + ", " + n + ", 1)", x.luck(v, d, n, 1), below);
    }

    private static void mean() {
        AimTunnel x = Check.told("plain 0 0;cynic 1 1;lover 2 2;plain 0 3;");
        means(x, 3, 0, 0, 1);
        means(x, 3, 1, 7, 5);
        means(x, 3, 4, 21, 10);
        means(x, 0, 40, 3, 1);
        means(x, 10, 40, 0, 1);
        means(x, 5, 40, 3, 2);
        int[][] bad = {{-1, 0, 0}, {11, 0, 0}, {5, -1, 0}, {5, 41, 0}, {5, 0, 2}, {5, 0, -1}};
        for (int[] b : bad) {
            check.due("mean(" + b[0] + ", " + b[1] + ", " + b[2] + ")", x.mean(b[0], b[1], b[2]), -1);
        }
        x.dig(1);
        means(x, 10, 40, 2, 1);
        means(x, 5, 2, 2, 1);
        means(x, 5, 3, 5, 2);
        AimTunnel four = Check.told("plain 0 0;plain 0 0;plain 0 0;plain 0 0;");
        means(four, 3, 1, 14, 5);
        means(four, 5, 1, 2, 1);
        means(new AimTunnel(), 5, 5, 0, 1);
    }

    private static void means(AimTunnel x, int v, int n, long above, long below) {
        check.due("mean(" + v + ", " + n + ", 0)", x.mean(v, n, 0), above);
        check.due("mean(" + v + ", " + n + ", 1)", x.mean(v, n, 1), below);
    }
}
