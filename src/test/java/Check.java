/** Counts answers that are not as due, and ends the test with 1 if there was one. */
final class Check {
    private int wrong = 0;
    private int asked = 0;

    void due(String call, long got, long want) {
        asked++;
        if (got != want) {
            wrong++;
            System.out.println(call + " answered " + got + ", due is " + want);
        }
    }

    void holds(String what, boolean is) {
        asked++;
        if (!is) {
            wrong++;
            System.out.println("does not hold: " + what);
        }
    }

    int wrong() {
        return wrong;
    }

    void finish() {
        System.out.println(asked + " asked, " + wrong + " not as due");
        if (wrong != 0) {
            System.exit(1);
        }
    }

    /** A new object that has been told a text. */
    static AimTunnel told(String text) {
        AimTunnel x = new AimTunnel();
        feed(x, text);
        int lines = x.text();
        if (lines < 0) {
            throw new IllegalStateException(text + ": " + lines + ", fault " + x.fault());
        }
        return x;
    }

    static void feed(AimTunnel x, String text) {
        for (int i = 0; i < text.length(); i++) {
            x.feed(text.charAt(i));
        }
    }
}
