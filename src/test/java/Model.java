import java.util.ArrayList;
import java.util.HashMap;
import java.util.HashSet;
import java.util.List;
import java.util.Map;
import java.util.Set;

/** The document once more, as slow and plain as may be, to hold the class against. */
final class Model {
    static final class Digger {
        int kind, x, y, aim, heading, faith = 20;
        boolean up;

        Digger copy() {
            Digger c = new Digger();
            c.kind = kind;
            c.x = x;
            c.y = y;
            c.aim = aim;
            c.heading = heading;
            c.faith = faith;
            c.up = up;
            return c;
        }

        int at() {
            return 10 * x + y;
        }
    }

    static final class World {
        List<Digger> diggers = new ArrayList<>();
        Set<Integer> rocks = new HashSet<>();
        List<int[]> words = new ArrayList<>();
        List<int[]> seen = new ArrayList<>();
        int foot;

        World copy() {
            World c = new World();
            for (Digger d : diggers) {
                c.diggers.add(d.copy());
            }
            c.rocks.addAll(rocks);
            c.words.addAll(words);
            c.seen.addAll(seen);
            c.foot = foot;
            return c;
        }

        World behind(int feet) {
            World w = copy();
            for (int i = 0; i < feet; i++) {
                w.go();
            }
            return w;
        }

        void go() {
            for (int[] word : words) {
                Digger d = diggers.get(word[1]);
                if (word[0] == foot && !d.up) {
                    d.aim = word[2];
                }
            }
            for (int i = 0; i < diggers.size(); i++) {
                Digger d = diggers.get(i);
                if (!d.up && d.faith > 0) {
                    d.faith--;
                    move(i, d);
                }
            }
            foot = Math.min(999, foot + 1);
        }

        private void move(int i, Digger d) {
            int want = d.aim;
            if (d.kind == 2 && diggers.size() > 1) {
                want = diggers.get((i + 1) % diggers.size()).at();
            }
            if (d.kind != 3) {
                int dx = want / 10 - d.x;
                int dy = want % 10 - d.y;
                if (dx == 0 && dy == 0) {
                    if (d.kind != 2) {
                        d.up = true;
                        return;
                    }
                } else {
                    d.heading = dx > 0 ? 1 : dx < 0 ? 3 : dy > 0 ? 0 : 2;
                    if (d.kind == 1) {
                        d.heading = (d.heading + 1) % 4;
                    }
                }
            }
            int nx = d.x + (d.heading == 1 ? 1 : d.heading == 3 ? -1 : 0);
            int ny = d.y + (d.heading == 0 ? 1 : d.heading == 2 ? -1 : 0);
            if (nx < 0 || nx > 7 || ny < 0 || ny > 7 || rocks.contains(10 * nx + ny)) {
                d.heading = (d.heading + 1) % 4;
            } else {
                d.x = nx;
                d.y = ny;
            }
        }

        int up() {
            int bits = 0;
            for (int i = 0; i < diggers.size(); i++) {
                bits |= diggers.get(i).up ? 1 << i : 0;
            }
            return bits;
        }

        int faithless() {
            int bits = 0;
            for (int i = 0; i < diggers.size(); i++) {
                bits |= diggers.get(i).faith == 0 ? 1 << i : 0;
            }
            return bits;
        }

        boolean meet(int d, int e) {
            Digger a = diggers.get(d);
            Digger b = diggers.get(e);
            return a.at() == b.at() && !a.up && !b.up;
        }

        boolean holds(int cell) {
            for (Digger d : diggers) {
                if (d.at() == cell) {
                    return true;
                }
            }
            return false;
        }

        int reaches(int d, int cell, int most) {
            World w = copy();
            for (int i = 0; i <= most; i++) {
                if (w.diggers.get(d).at() == cell) {
                    return i;
                }
                w.go();
            }
            return -4;
        }

        World withAim(int d, int aim) {
            World w = copy();
            w.diggers.get(d).aim = aim;
            return w;
        }

        boolean asSeen() {
            for (int[] s : seen) {
                if (behind(s[1]).diggers.get(s[0]).at() != s[2]) {
                    return false;
                }
            }
            return true;
        }

        String outline() {
            StringBuilder all = new StringBuilder();
            for (Digger d : diggers) {
                all.append(d.at()).append(' ').append(d.heading).append(d.up).append(';');
            }
            return all.toString();
        }
    }

    static final List<Integer> CELLS = new ArrayList<>();

    static {
        for (int x = 0; x < 8; x++) {
            for (int y = 0; y < 8; y++) {
                CELLS.add(10 * x + y);
            }
        }
    }

    World now = new World();
    final World[] images = new World[2];
    final Object[] sheets = new Object[4];
    final StringBuilder tape = new StringBuilder();
    int fault;
    int torn;

    private boolean none(int d) {
        return d < 0 || d >= now.diggers.size();
    }

    private static boolean noCell(int cell) {
        return !CELLS.contains(cell);
    }

    private static boolean out(int v, int low, int high) {
        return v < low || v > high;
    }

    // ---- the text

    static final class Fault extends Exception {
        private static final long serialVersionUID = 1L;
        final int sort, place;

        Fault(int sort, int place) {
            this.sort = sort;
            this.place = place;
        }
    }

    int feed(int c) {
        if (out(c, 0, 127)) {
            return -1;
        }
        if (tape.length() == 160) {
            return -3;
        }
        tape.append((char) c);
        return tape.length();
    }

    int end(int n) {
        int had = tape.length();
        if (out(n, 0, had)) {
            return -1;
        }
        tape.setLength(n);
        return had;
    }

    int text() {
        String all = tape.toString();
        tape.setLength(0);
        try {
            World told = new World();
            int lines = new Text(all, told).lines();
            now = told;
            images[0] = null;
            images[1] = null;
            fault = 0;
            return lines;
        } catch (Fault f) {
            fault = f.sort;
            return -10 - f.place;
        }
    }

    static final class Text {
        private final String all;
        private final World world;
        private final Map<Integer, Integer> faiths = new HashMap<>();
        private int start, stop;
        private String token = "";

        Text(String all, World world) {
            this.all = all;
            this.world = world;
        }

        private void next() throws Fault {
            start = stop;
            while (start < all.length() && all.charAt(start) == ' ') {
                start++;
            }
            java.util.regex.Matcher m = java.util.regex.Pattern.compile("[a-z]+|[0-9]+|;|\\z").matcher(all);
            m.region(start, all.length());
            if (!m.lookingAt()) {
                throw new Fault(1, start);
            }
            token = m.group();
            stop = m.end();
            if (token.matches("[0-9]{3,}")) {
                throw new Fault(1, start);
            }
        }

        private int number(String bounds) throws Fault {
            next();
            if (!token.matches("[0-9]+")) {
                throw new Fault(2, start);
            }
            int v = Integer.parseInt(token);
            if (!(bounds.equals("cell") ? CELLS.contains(v) : v <= Integer.parseInt(bounds))) {
                throw new Fault(3, start);
            }
            return v;
        }

        private void semicolon() throws Fault {
            next();
            if (!token.equals(";")) {
                throw new Fault(2, start);
            }
        }

        int lines() throws Fault {
            int lines = 0;
            for (next(); !token.isEmpty(); next()) {
                line();
                lines++;
            }
            boolean nobody = false;
            for (int d : faiths.keySet()) {
                nobody |= d >= world.diggers.size();
            }
            for (int[] w : world.words) {
                nobody |= w[1] >= world.diggers.size();
            }
            if (nobody) {
                throw new Fault(6, all.length());
            }
            for (int d = 0; d < world.diggers.size(); d++) {
                if (world.rocks.contains(world.diggers.get(d).at())) {
                    throw new Fault(7, all.length());
                }
                world.diggers.get(d).faith = faiths.getOrDefault(d, 20);
            }
            return lines;
        }

        private void line() throws Fault {
            List<String> names = List.of("plain", "cynic", "lover", "guard", "rock", "faith", "word");
            int name = names.indexOf(token);
            if (name < 0) {
                throw new Fault(2, start);
            }
            int[] had = {world.diggers.size(), world.rocks.size(), 0, world.words.size()};
            int[] most = {4, 8, 1, 6};
            int group = Math.max(0, name - 3);
            if (had[group] >= most[group]) {
                throw new Fault(5, start);
            }
            if (name < 4) {
                Digger d = new Digger();
                d.kind = name;
                int at = number("cell");
                d.x = at / 10;
                d.y = at % 10;
                d.aim = number("cell");
                world.diggers.add(d);
            } else if (name == 4) {
                if (!world.rocks.add(number("cell"))) {
                    throw new Fault(4, start);
                }
            } else if (name == 5) {
                int d = number("3");
                if (faiths.containsKey(d)) {
                    throw new Fault(4, start);
                }
                faiths.put(d, number("40"));
            } else {
                world.words.add(new int[] {number("20"), number("3"), number("cell")});
            }
            semicolon();
        }
    }

    int rule(int what) {
        int[] all = {now.diggers.size(), now.rocks.size(), now.words.size(), now.foot, now.up(), now.faithless()};
        return out(what, 0, 5) ? -1 : all[what];
    }

    int digger(int d, int what) {
        if (none(d) || out(what, 0, 5)) {
            return -1;
        }
        Digger g = now.diggers.get(d);
        return new int[] {g.kind, g.at(), g.aim, g.heading, g.faith, g.up ? 1 : 0}[what];
    }

    int rock(int cell) {
        return noCell(cell) ? -1 : now.rocks.contains(cell) ? 1 : 0;
    }

    int word(int i, int what) {
        return out(i, 0, now.words.size() - 1) || out(what, 0, 2) ? -1 : now.words.get(i)[what];
    }

    // ---- what is changed

    int alter(int d, int what, int v) {
        return alter(now, d, what, v);
    }

    private int alter(World w, int d, int what, int v) {
        if (none(d)) {
            return -1;
        }
        boolean good = what == 0 || what == 3 ? !out(v, 0, 3) : what == 2 ? !noCell(v) : what == 4 && !out(v, 0, 40);
        if (!good) {
            return -1;
        }
        Digger g = w.diggers.get(d);
        if (g.up) {
            return -2;
        }
        int was = what == 0 ? g.kind : what == 2 ? g.aim : what == 3 ? g.heading : g.faith;
        if (what == 0) {
            g.kind = v;
        } else if (what == 2) {
            g.aim = v;
        } else if (what == 3) {
            g.heading = v;
        } else {
            g.faith = v;
        }
        return was;
    }

    int stone(int cell, boolean is) {
        if (noCell(cell)) {
            return -1;
        }
        boolean was = now.rocks.contains(cell);
        if (is && !was) {
            if (now.holds(cell)) {
                return -2;
            }
            if (now.rocks.size() >= 8) {
                return -3;
            }
            now.rocks.add(cell);
        } else if (!is) {
            now.rocks.remove(cell);
        }
        return was ? 1 : 0;
    }

    int tell(int foot, int d, int aim) {
        if (out(foot, 0, 20) || none(d) || noCell(aim)) {
            return -1;
        }
        if (now.words.size() >= 6) {
            return -3;
        }
        now.words.add(new int[] {foot, d, aim});
        return now.words.size();
    }

    int hush(int n) {
        int had = now.words.size();
        if (out(n, 0, had)) {
            return -1;
        }
        now.words = new ArrayList<>(now.words.subList(0, n));
        return had;
    }

    // ---- feet

    int dig(int n) {
        if (out(n, 0, 20)) {
            return -1;
        }
        if (now.foot + n >= 1000) {
            return -3;
        }
        now = now.behind(n);
        return now.up();
    }

    int runs(int n, int what) {
        if (out(n, 0, 40) || out(what, 0, 3)) {
            return -1;
        }
        int often = 0;
        int first = -4;
        for (int i = 1; i <= n; i++) {
            World w = now.behind(i);
            for (int d = 0; d < w.diggers.size(); d++) {
                for (int e = 0; e < d; e++) {
                    if (w.meet(d, e)) {
                        often++;
                        first = first < 0 ? i : first;
                    }
                }
            }
        }
        return new int[] {now.behind(n).up(), now.behind(n).faithless(), often, first}[what];
    }

    int ahead(int d, int n) {
        return none(d) || out(n, 0, 40) ? -1 : now.behind(n).diggers.get(d).at();
    }

    int reaches(int d, int cell) {
        return none(d) || noCell(cell) ? -1 : now.reaches(d, cell, 40);
    }

    int meet(int d, int e) {
        if (none(d) || none(e) || d == e) {
            return -1;
        }
        for (int i = 0; i <= 40; i++) {
            if (now.behind(i).meet(d, e)) {
                return i;
            }
        }
        return -4;
    }

    int ring(int what) {
        if (out(what, 0, 1)) {
            return -1;
        }
        List<String> past = new ArrayList<>();
        for (int i = 0; i <= 40; i++) {
            String outline = now.behind(i).outline();
            if (past.contains(outline)) {
                return what == 0 ? i : past.indexOf(outline);
            }
            past.add(outline);
        }
        return -4;
    }

    // ---- what to tell whom

    int aim(int d, int cell, int n, int what) {
        if (none(d) || noCell(cell) || out(n, 0, 40) || out(what, 0, 1)) {
            return -1;
        }
        if (now.diggers.get(d).up) {
            return -2;
        }
        for (int feet = 0; feet <= n; feet++) {
            for (int a : CELLS) {
                if (now.withAim(d, a).behind(feet).diggers.get(d).at() == cell) {
                    return what == 0 ? a : feet;
                }
            }
        }
        return -4;
    }

    int words(int d, int cell) {
        if (none(d) || noCell(cell)) {
            return -1;
        }
        if (now.diggers.get(d).up) {
            return -2;
        }
        if (now.reaches(d, cell, 20) >= 0) {
            return 0;
        }
        for (int a : CELLS) {
            if (now.withAim(d, a).reaches(d, cell, 20) >= 0) {
                return 1;
            }
        }
        for (int a : CELLS) {
            for (int k = 1; k <= 9; k++) {
                World w = now.withAim(d, a).behind(k);
                if (w.diggers.get(d).up) {
                    continue;
                }
                for (int b : CELLS) {
                    if (w.withAim(d, b).reaches(d, cell, 20 - k) >= 0) {
                        return 2;
                    }
                }
            }
        }
        return -4;
    }

    int spread(int d, int n) {
        if (none(d) || out(n, 0, 40)) {
            return -1;
        }
        if (now.diggers.get(d).up) {
            return -2;
        }
        Set<Integer> cells = new HashSet<>();
        for (int a : CELLS) {
            cells.add(now.withAim(d, a).behind(n).diggers.get(d).at());
        }
        return cells.size();
    }

    int block(int d, int cell) {
        if (none(d) || noCell(cell)) {
            return -1;
        }
        if (now.reaches(d, cell, 20) < 0) {
            return -4;
        }
        for (int r : CELLS) {
            if (now.rocks.contains(r) || now.holds(r)) {
                continue;
            }
            World w = now.copy();
            w.rocks.add(r);
            if (w.reaches(d, cell, 20) < 0) {
                return r;
            }
        }
        return -4;
    }

    // ---- faith by odds

    long luck(int v, int d, int n, int what) {
        return none(d) ? -1 : odds(v, n, what, 1 << d);
    }

    long mean(int v, int n, int what) {
        return odds(v, n, what, 15);
    }

    private long odds(int v, int n, int what, int mask) {
        if (out(v, 0, 10) || out(n, 0, 40) || out(what, 0, 1)) {
            return -1;
        }
        long all = (long) Math.pow(10, now.diggers.size());
        long sum = 0;
        for (int lost = 0; lost < 1 << now.diggers.size(); lost++) {
            World w = now.copy();
            long weight = 1;
            for (int i = 0; i < w.diggers.size(); i++) {
                if ((lost >> i) % 2 == 1) {
                    w.diggers.get(i).faith = 0;
                    weight *= v;
                } else {
                    weight *= 10 - v;
                }
            }
            sum += weight * Integer.bitCount(w.behind(n).up() & mask);
        }
        long g = java.math.BigInteger.valueOf(sum).gcd(java.math.BigInteger.valueOf(all)).longValue();
        return what == 0 ? sum / g : all / g;
    }

    // ---- what he meant

    int see(int d, int n, int cell) {
        if (none(d) || out(n, 0, 20) || noCell(cell)) {
            return -1;
        }
        if (now.seen.size() >= 6) {
            return -3;
        }
        now.seen.add(new int[] {d, n, cell});
        return now.seen.size();
    }

    int forget(int n) {
        int had = now.seen.size();
        if (out(n, 0, had)) {
            return -1;
        }
        now.seen = new ArrayList<>(now.seen.subList(0, n));
        return had;
    }

    private List<Integer> fitting(int d) {
        List<Integer> fit = new ArrayList<>();
        for (int a : CELLS) {
            if (now.withAim(d, a).asSeen()) {
                fit.add(a);
            }
        }
        return fit;
    }

    int aims(int d, int what) {
        if (none(d) || out(what, 0, 1)) {
            return -1;
        }
        List<Integer> fit = fitting(d);
        return what == 0 ? fit.size() : fit.isEmpty() ? -4 : fit.get(0);
    }

    int kinds(int d) {
        if (none(d)) {
            return -1;
        }
        int bits = 0;
        for (int k = 0; k < 4; k++) {
            World w = now.copy();
            w.diggers.get(d).kind = k;
            bits |= w.asSeen() ? 1 << k : 0;
        }
        return bits;
    }

    int look(int d, int what) {
        if (none(d) || out(what, 0, 1)) {
            return -1;
        }
        List<Integer> fit = fitting(d);
        int best = -4;
        int fewest = fit.size();
        for (int n = 0; n <= 20; n++) {
            Map<Integer, Integer> many = new HashMap<>();
            int worst = 0;
            for (int a : fit) {
                worst = Math.max(worst, many.merge(now.withAim(d, a).behind(n).diggers.get(d).at(), 1, Integer::sum));
            }
            if (worst < fewest) {
                fewest = worst;
                best = n;
            }
        }
        return best < 0 ? -4 : what == 0 ? best : fewest;
    }

    // ---- by a seed

    int drift(int seed, int n, int what) {
        if (out(n, 1, 60) || out(what, 0, 1)) {
            return -1;
        }
        if (now.diggers.isEmpty()) {
            return -2;
        }
        World w = now.copy();
        long s = seed & 0xffffffffL;
        for (int i = 0; i < n; i++) {
            s = (s * 1103515245L + 12345L) & 0xffffffffL;
            int got = (int) (s / 65536 % 32768);
            Digger d = w.diggers.get(got % w.diggers.size());
            if (!d.up) {
                d.aim = 10 * (got / 8 % 8) + got / 64 % 8;
            }
            w.go();
        }
        return what == 0 ? w.up() : w.diggers.get(0).at();
    }

    // ---- images, sheets

    int keep(int k) {
        if (out(k, 0, 1)) {
            return -1;
        }
        int was = images[k] == null ? 0 : 1;
        images[k] = now.copy();
        return was;
    }

    int back(int k) {
        if (out(k, 0, 1)) {
            return -1;
        }
        if (images[k] == null) {
            return -2;
        }
        now = images[k].copy();
        return now.foot;
    }

    int sheet(int k, int lane, int n) {
        if (out(k, 0, 3) || out(lane, 0, 2) || n > 40) {
            return -1;
        }
        if (n < 0) {
            return -14;
        }
        sheets[k] = lane == 0 ? new byte[n] : lane == 1 ? new short[n] : new int[n];
        return 1;
    }

    /** Here the machine itself finds the faults. */
    int lay(int k, int i, int v) {
        if (out(k, 0, 3)) {
            return -1;
        }
        if (sheets[k] == null) {
            return -11;
        }
        try {
            if (sheets[k] instanceof byte[]) {
                ((byte[]) sheets[k])[i] = (byte) v;
            } else if (sheets[k] instanceof short[]) {
                ((short[]) sheets[k])[i] = (short) v;
            } else {
                ((int[]) sheets[k])[i] = v;
            }
            return 1;
        } catch (ArrayIndexOutOfBoundsException e) {
            return -12;
        }
    }

    private int cell(int k, int lane, int i) {
        return lane == 0 ? ((byte[]) sheets[k])[i] : lane == 1 ? ((short[]) sheets[k])[i] : ((int[]) sheets[k])[i];
    }

    int read(int k, int lane, int f, int n) {
        if (out(k, 0, 3) || out(lane, 0, 2) || out(n, 0, 20)) {
            return -1;
        }
        World w = now.copy();
        int met = 0;
        int i = 0;
        try {
            for (; i < n; i++) {
                int d = cell(k, lane, f + 2 * i);
                int aim = cell(k, lane, f + 2 * i + 1);
                if (alter(w, d, 2, aim) < 0 || w.foot == 999) {
                    return -20 - i;
                }
                w.go();
            }
        } catch (NullPointerException e) {
            met = 1;
        } catch (ArrayIndexOutOfBoundsException e) {
            met = 2;
        } catch (ClassCastException e) {
            met = 3;
        }
        now = w;
        torn = met;
        return i;
    }

    int count(int what) {
        int faith = 0;
        for (Digger d : now.diggers) {
            faith += d.faith;
        }
        int images = (this.images[0] == null ? 0 : 1) + (this.images[1] == null ? 0 : 1);
        int cells = sheets[0] == null ? -4 : java.lang.reflect.Array.getLength(sheets[0]);
        return out(what, 0, 4) ? -1 : new int[] {now.seen.size(), images, tape.length(), cells, faith}[what];
    }
}
