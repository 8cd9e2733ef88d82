import java.util.Random;

/** Long runs of calls, the same on the class and on the model, with ordinary and with wild numbers. */
public final class ModelTest {
    private static final int RUNS = 150;
    private static final int WORDS_RUNS = 60;
    private static final int CALLS = 512;
    /** So that the model's dearest call is not asked for too often. */
    private static final int MOST_WORDS_CALLS = 4;

    private static final Check check = new Check();
    private static final int[] WILD = {Integer.MIN_VALUE, Integer.MIN_VALUE + 1, -65536, -100, -11, -4, -2, -1,
        8, 18, 21, 41, 61, 78, 80, 100, 127, 128, 160, 161, 256, 999, 1000, 65536, Integer.MAX_VALUE - 1, Integer.MAX_VALUE};

    private final Random random;
    private final AimTunnel x = new AimTunnel();
    private final Model m = new Model();
    private final int run;
    private int calls = 0;
    private int wordsCalls = 0;

    private ModelTest(int run) {
        this.run = run;
        this.random = new Random(run);
    }

    public static void main(String[] args) {
        int from = args.length > 0 ? Integer.parseInt(args[0]) : 0;
        int runs = args.length > 1 ? Integer.parseInt(args[1]) : RUNS;
        for (int run = from; run < from + runs && check.wrong() < 50; run++) {
            new ModelTest(run).go();
        }
        for (int run = from; run < from + WORDS_RUNS && check.wrong() < 50; run++) {
            new ModelTest(run).askForWords();
        }
        check.finish();
    }

    private void due(String call, long got, long want) {
        calls++;
        check.due("run " + run + ", call " + calls + ": " + call, got, want);
    }

    private void go() {
        int before = check.wrong();
        boolean wild = run % 4 == 3;
        // A sheet of words takes some 20 calls; none may come behind the 512th.
        while (calls < CALLS - 20 && check.wrong() == before) {
            if (calls == 0 || random.nextInt(60) == 0) {
                text();
            } else if (random.nextInt(40) == 0) {
                sheetOfWords();
            } else {
                call(wild && random.nextInt(3) == 0);
            }
        }
    }

    /** One digger among rocks and words, who needs two words more to many a cell. */
    private void askForWords() {
        StringBuilder text = new StringBuilder(new String[] {"plain ", "plain ", "cynic ", "lover "}[pick(3)]);
        text.append(cell()).append(' ').append(cell()).append(";faith 0 ").append(random.nextBoolean() ? 40 : 20).append(";");
        int rocks = pick(7);
        for (int i = 0; i < rocks; i++) {
            text.append("rock ").append(cell()).append(';');
        }
        int words = pick(4);
        for (int i = 0; i < words; i++) {
            text.append("word ").append(pick(20)).append(" 0 ").append(cell()).append(';');
        }
        for (int i = 0; i < text.length(); i++) {
            x.feed(text.charAt(i));
            m.feed(text.charAt(i));
        }
        due("text() of '" + text + "'", x.text(), m.text());
        for (int i = 0; i < 6; i++) {
            int cell = cell();
            due("words(0, " + cell + ") of '" + text + "'", x.words(0, cell), m.words(0, cell));
        }
    }

    private int pick(int high) {
        return random.nextInt(high + 1);
    }

    private int cell() {
        return 10 * pick(7) + pick(7);
    }

    /** Cells near somebody make for more answers than NONE. */
    private int nearCell() {
        if (m.now.diggers.isEmpty() || random.nextInt(3) == 0) {
            return cell();
        }
        Model.World w = m.now.behind(pick(20));
        return w.diggers.get(random.nextInt(w.diggers.size())).at();
    }

    private int someDigger() {
        int many = m.now.diggers.size();
        return many == 0 || random.nextInt(20) == 0 ? pick(4) : random.nextInt(many);
    }

    private void text() {
        String text = random.nextInt(4) == 0 ? spoiled(goodText()) : goodText();
        if (random.nextInt(4) != 0) {
            due("end(0)", x.end(0), m.end(0));
        }
        for (int i = 0; i < text.length() && calls < CALLS - 2; i++) {
            int c = text.charAt(i);
            due("feed(" + c + ")", x.feed(c), m.feed(c));
        }
        due("text() of '" + m.tape + "'", x.text(), m.text());
        due("fault()", x.fault(), m.fault);
    }

    private String goodText() {
        StringBuilder b = new StringBuilder();
        String[] names = {"plain", "plain", "cynic", "lover", "guard"};
        int diggers = 1 + pick(3);
        for (int i = 0; i < diggers; i++) {
            b.append(names[pick(4)]).append(' ').append(cell()).append(' ').append(cell()).append(';');
        }
        int rocks = pick(5);
        for (int i = 0; i < rocks; i++) {
            b.append("rock ").append(cell()).append(";");
        }
        if (random.nextBoolean()) {
            b.append("faith ").append(pick(diggers - 1)).append(' ').append(pick(40)).append(" ; ");
        }
        int words = pick(3);
        for (int i = 0; i < words; i++) {
            b.append("word ").append(pick(20)).append(' ').append(pick(diggers - 1)).append(' ').append(cell()).append(";");
        }
        return b.toString();
    }

    private String spoiled(String text) {
        StringBuilder b = new StringBuilder(text);
        String signs = " ;09a8kz7/:`{1\t";
        int times = 1 + pick(2);
        for (int i = 0; i < times; i++) {
            if (b.length() == 0) {
                b.append(';');
            }
            int at = random.nextInt(b.length());
            char sign = signs.charAt(random.nextInt(signs.length()));
            switch (pick(3)) {
                case 0: b.setCharAt(at, sign); break;
                case 1: b.insert(at, sign); break;
                case 2: b.deleteCharAt(at); break;
                default: b.setLength(Math.max(1, at)); break;
            }
        }
        return b.toString();
    }

    private void sheetOfWords() {
        int k = pick(3);
        int lane = pick(2);
        int many = pick(6);
        due("sheet of words", x.sheet(k, lane, 2 * many + 1), m.sheet(k, lane, 2 * many + 1));
        for (int i = 0; i < many; i++) {
            int d = someDigger();
            int aim = cell();
            due("lay", x.lay(k, 2 * i, d), m.lay(k, 2 * i, d));
            due("lay", x.lay(k, 2 * i + 1, aim), m.lay(k, 2 * i + 1, aim));
        }
        int n = pick(many + 1);
        due("read(" + k + ", " + lane + ", 0, " + n + ")", x.read(k, lane, 0, n), m.read(k, lane, 0, n));
        due("torn()", x.torn(), m.torn);
    }

    private int[] ordinary(int which) {
        switch (which) {
            case 0: return new int[] {pick(127)};
            case 1: return new int[] {pick(5)};
            case 4: return new int[] {pick(6)};
            case 5: return new int[] {someDigger(), pick(6)};
            case 6: return new int[] {cell()};
            case 7: return new int[] {pick(4), pick(3)};
            case 8: return alterNumbers();
            case 9: return new int[] {nearCell(), pick(1)};
            case 10: return new int[] {pick(20), someDigger(), cell()};
            case 11: case 25: return new int[] {pick(6)};
            case 12: return new int[] {pick(random.nextInt(4) == 0 ? 20 : 3)};
            case 13: return new int[] {pick(40), pick(3)};
            case 14: return new int[] {someDigger(), pick(40)};
            case 15: case 19: case 21: return new int[] {someDigger(), nearCell()};
            case 16: return new int[] {someDigger(), someDigger()};
            case 17: return new int[] {pick(1)};
            case 18: return new int[] {someDigger(), nearCell(), pick(40), pick(1)};
            case 20: return new int[] {someDigger(), pick(40)};
            case 22: return new int[] {pick(10), someDigger(), pick(40), pick(1)};
            case 23: return new int[] {pick(10), pick(40), pick(1)};
            case 24: return seenNumbers();
            case 26: case 28: return new int[] {someDigger(), pick(1)};
            case 27: return new int[] {someDigger()};
            case 29: return new int[] {random.nextInt(), 1 + pick(59), pick(1)};
            case 30: case 31: return new int[] {pick(1)};
            case 32: return new int[] {pick(3), pick(2), pick(40)};
            case 33: return new int[] {pick(3), pick(20), random.nextBoolean() ? someDigger() : cell()};
            case 34: return new int[] {pick(3), pick(2), pick(9), pick(5)};
            default: return new int[] {pick(4)};
        }
    }

    private int[] alterNumbers() {
        int what = new int[] {0, 2, 3, 4, 4, 2, 1}[pick(6)];
        return new int[] {someDigger(), what, what == 2 ? cell() : what == 4 ? pick(40) : pick(3)};
    }

    /** What will be, or with another aim would have been, so that something fits. */
    private int[] seenNumbers() {
        int d = someDigger();
        int n = pick(20);
        if (d >= m.now.diggers.size()) {
            return new int[] {d, n, cell()};
        }
        Model.World w = random.nextBoolean() ? m.now : m.now.withAim(d, cell());
        return new int[] {d, n, w.behind(n).diggers.get(d).at()};
    }

    private void call(boolean wild) {
        int which = pick(36);
        if (which == 12 && random.nextInt(3) != 0 || which == 11 && random.nextInt(3) != 0) {
            which = 30 + pick(1);
        }
        int[] a = ordinary(which);
        if (wild) {
            a[random.nextInt(a.length)] = WILD[random.nextInt(WILD.length)];
        }
        StringBuilder numbers = new StringBuilder();
        for (int v : a) {
            numbers.append(numbers.length() == 0 ? "" : ", ").append(v);
        }
        if (which < 18) {
            tellOrGo(which, a, "(" + numbers + ")");
        } else {
            ask(which, a, "(" + numbers + ")");
        }
    }

    private void tellOrGo(int which, int[] a, String n) {
        switch (which) {
            case 0: due("feed" + n, x.feed(a[0]), m.feed(a[0])); break;
            case 1: due("end" + n, x.end(a[0]), m.end(a[0])); break;
            case 2: due("fault()", x.fault(), m.fault); break;
            case 3: due("torn()", x.torn(), m.torn); break;
            case 4: due("rule" + n, x.rule(a[0]), m.rule(a[0])); break;
            case 5: due("digger" + n, x.digger(a[0], a[1]), m.digger(a[0], a[1])); break;
            case 6: due("rock" + n, x.rock(a[0]), m.rock(a[0])); break;
            case 7: due("word" + n, x.word(a[0], a[1]), m.word(a[0], a[1])); break;
            case 8: due("alter" + n, x.alter(a[0], a[1], a[2]), m.alter(a[0], a[1], a[2])); break;
            case 9: due("stone" + n, x.stone(a[0], a[1] == 1), m.stone(a[0], a[1] == 1)); break;
            case 10: due("tell" + n, x.tell(a[0], a[1], a[2]), m.tell(a[0], a[1], a[2])); break;
            case 11: due("hush" + n, x.hush(a[0]), m.hush(a[0])); break;
            case 12: due("dig" + n, x.dig(a[0]), m.dig(a[0])); break;
            case 13: due("runs" + n, x.runs(a[0], a[1]), m.runs(a[0], a[1])); break;
            case 14: due("ahead" + n, x.ahead(a[0], a[1]), m.ahead(a[0], a[1])); break;
            case 15: due("reaches" + n, x.reaches(a[0], a[1]), m.reaches(a[0], a[1])); break;
            case 16: due("meet" + n, x.meet(a[0], a[1]), m.meet(a[0], a[1])); break;
            default: due("ring" + n, x.ring(a[0]), m.ring(a[0])); break;
        }
    }

    private void ask(int which, int[] a, String n) {
        switch (which) {
            case 18: due("aim" + n, x.aim(a[0], a[1], a[2], a[3]), m.aim(a[0], a[1], a[2], a[3])); break;
            case 19:
                wordsCalls++;
                if (wordsCalls <= MOST_WORDS_CALLS) {
                    due("words" + n, x.words(a[0], a[1]), m.words(a[0], a[1]));
                }
                break;
            case 20: due("spread" + n, x.spread(a[0], a[1]), m.spread(a[0], a[1])); break;
            case 21: due("block" + n, x.block(a[0], a[1]), m.block(a[0], a[1])); break;
            case 22: due("luck" + n, x.luck(a[0], a[1], a[2], a[3]), m.luck(a[0], a[1], a[2], a[3])); break;
            case 23: due("mean" + n, x.mean(a[0], a[1], a[2]), m.mean(a[0], a[1], a[2])); break;
            case 24: due("see" + n, x.see(a[0], a[1], a[2]), m.see(a[0], a[1], a[2])); break;
            case 25: due("forget" + n, x.forget(a[0]), m.forget(a[0])); break;
            case 26: due("aims" + n, x.aims(a[0], a[1]), m.aims(a[0], a[1])); break;
            case 27: due("kinds" + n, x.kinds(a[0]), m.kinds(a[0])); break;
            case 28: due("look" + n, x.look(a[0], a[1]), m.look(a[0], a[1])); break;
            case 29: due("drift" + n, x.drift(a[0], a[1], a[2]), m.drift(a[0], a[1], a[2])); break;
            case 30: due("keep" + n, x.keep(a[0]), m.keep(a[0])); break;
            case 31: due("back" + n, x.back(a[0]), m.back(a[0])); break;
            case 32: due("sheet" + n, x.sheet(a[0], a[1], a[2]), m.sheet(a[0], a[1], a[2])); break;
            case 33: due("lay" + n, x.lay(a[0], a[1], a[2]), m.lay(a[0], a[1], a[2])); break;
            case 34: due("read" + n, x.read(a[0], a[1], a[2], a[3]), m.read(a[0], a[1], a[2], a[3])); break;
            default: due("count" + n, x.count(a[0]), m.count(a[0])); break;
        }
    }
}
