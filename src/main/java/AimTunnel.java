/**
 * A tunnel that comes up by intention. What each call promises stands in ../shared/DOC.md.
 *
 * Inside, a cell is 8 times x and y (0 to 63): in the same order as its number, but without gaps.
 */
public final class AimTunnel {
    public static final int BAD = -1, STATE = -2, FULL = -3, NONE = -4;

    private static final int CELLS = 64;
    private static final int HEADINGS = 4;
    private static final int EVERYBODY = 15;
    private static final int MOST_FEET_AHEAD = 40;
    private static final int MOST_FEET = 20;
    private static final int LATEST_SECOND_WORD = 9;
    private static final int MOST_DRIFT = 60;
    private static final int LAST_FOOT = 999;
    private static final int FAULT_BASE = -10;
    private static final int REFUSED_BASE = -20;

    private final Ground now = new Ground();
    // Questions are tried out on these, so that no call has to make an object.
    private final Ground trial = new Ground();
    private final Ground branch = new Ground();

    private final Ground image0 = new Ground();
    private final Ground image1 = new Ground();
    private int keptImages = 0;

    private final Tape tape = new Tape();
    private final Sheets sheets = new Sheets();
    private int textFault = 0;
    private int readFault = 0;

    private final long[] history = new long[MOST_FEET_AHEAD + 1];
    private final int[] tally = new int[(MOST_FEET + 1) * CELLS];
    private final boolean[] tried = new boolean[CELLS * HEADINGS];

    public AimTunnel() {
    }

    // ---- the text

    public int feed(int c) {
        if (!within(c, 0, 127)) {
            return BAD;
        }
        return tape.append(c) ? tape.length : FULL;
    }

    public int end(int n) {
        int had = tape.length;
        if (!within(n, 0, had)) {
            return BAD;
        }
        tape.length = n;
        return had;
    }

    public int text() {
        trial.clear();
        tape.rewind();
        int lines = 0;
        while (lines < Tape.MOST_BYTES && tape.hasLine()) {
            tape.takeLine(trial);
            lines++;
        }
        tape.takeEnd(trial);
        textFault = tape.fault;
        tape.length = 0;
        if (textFault != 0) {
            return FAULT_BASE - tape.place;
        }
        now.copy(trial);
        keptImages = 0;
        return lines;
    }

    public int fault() {
        return textFault;
    }

    public int rule(int what) {
        switch (what) {
            case 0: return now.diggers;
            case 1: return Long.bitCount(now.rocks);
            case 2: return now.words;
            case 3: return now.foot;
            case 4: return now.up;
            case 5: return now.faithless();
            default: return BAD;
        }
    }

    public int digger(int d, int what) {
        if (!now.has(d) || !within(what, 0, 5)) {
            return BAD;
        }
        return now.trait(d, what);
    }

    public int rock(int cell) {
        int c = cellOf(cell);
        if (c < 0) {
            return BAD;
        }
        return now.isRock(c) ? 1 : 0;
    }

    public int word(int i, int what) {
        if (!within(i, 0, now.words - 1)) {
            return BAD;
        }
        switch (what) {
            case 0: return now.wordFoot[i];
            case 1: return now.wordDigger[i];
            case 2: return numberOf(now.wordAim[i]);
            default: return BAD;
        }
    }

    // ---- what is changed

    public int alter(int d, int what, int v) {
        return now.change(d, what, v);
    }

    public int stone(int cell, boolean is) {
        int c = cellOf(cell);
        if (c < 0) {
            return BAD;
        }
        boolean was = now.isRock(c);
        if (is && !was) {
            if (now.holdsDigger(c)) {
                return STATE;
            }
            if (Long.bitCount(now.rocks) >= Ground.MOST_ROCKS) {
                return FULL;
            }
        }
        now.setRock(c, is);
        return was ? 1 : 0;
    }

    public int tell(int foot, int d, int aim) {
        int c = cellOf(aim);
        if (!within(foot, 0, MOST_FEET) || !now.has(d) || c < 0) {
            return BAD;
        }
        if (now.words >= Ground.MOST_WORDS) {
            return FULL;
        }
        now.addWord(foot, d, c);
        return now.words;
    }

    public int hush(int n) {
        int had = now.words;
        if (!within(n, 0, had)) {
            return BAD;
        }
        now.words = n;
        return had;
    }

    // ---- feet

    public int dig(int n) {
        if (!within(n, 0, MOST_FEET)) {
            return BAD;
        }
        if (now.foot + n > LAST_FOOT) {
            return FULL;
        }
        now.goFeet(n, EVERYBODY);
        return now.up;
    }

    public int runs(int n, int what) {
        if (!within(n, 0, MOST_FEET_AHEAD) || !within(what, 0, 3)) {
            return BAD;
        }
        trial.copy(now);
        int meetings = 0;
        int first = NONE;
        for (int i = 1; i <= n; i++) {
            trial.goFoot(EVERYBODY);
            int here = trial.meetings();
            meetings += here;
            if (here > 0 && first == NONE) {
                first = i;
            }
        }
        switch (what) {
            case 0: return trial.up;
            case 1: return trial.faithless();
            case 2: return meetings;
            default: return first;
        }
    }

    public int ahead(int d, int n) {
        if (!now.has(d) || !within(n, 0, MOST_FEET_AHEAD)) {
            return BAD;
        }
        trial.copy(now);
        trial.goFeet(n, trial.bearingOn(d));
        return numberOf(trial.at[d]);
    }

    public int reaches(int d, int cell) {
        int c = cellOf(cell);
        if (!now.has(d) || c < 0) {
            return BAD;
        }
        trial.copy(now);
        return trial.feetUntil(d, c, MOST_FEET_AHEAD);
    }

    public int meet(int d, int e) {
        if (!now.has(d) || !now.has(e) || d == e) {
            return BAD;
        }
        trial.copy(now);
        int who = trial.bearingOn(d) | trial.bearingOn(e);
        for (int i = 0; i <= MOST_FEET_AHEAD; i++) {
            if (trial.twoMeet(d, e)) {
                return i;
            }
            trial.goFoot(who);
        }
        return NONE;
    }

    public int ring(int what) {
        if (!within(what, 0, 1)) {
            return BAD;
        }
        trial.copy(now);
        history[0] = trial.outline();
        for (int i = 1; i <= MOST_FEET_AHEAD; i++) {
            trial.goFoot(EVERYBODY);
            history[i] = trial.outline();
            for (int j = 0; j < i; j++) {
                if (history[j] == history[i]) {
                    return what == 0 ? i : j;
                }
            }
        }
        return NONE;
    }

    // ---- what to tell whom

    public int aim(int d, int cell, int n, int what) {
        int c = cellOf(cell);
        if (!now.has(d) || c < 0 || !within(n, 0, MOST_FEET_AHEAD) || !within(what, 0, 1)) {
            return BAD;
        }
        if (now.isUp(d)) {
            return STATE;
        }
        int best = NONE;
        int soonest = n + 1;
        for (int a = 0; a < CELLS && soonest > 0; a++) {
            tryAim(d, a);
            int feet = trial.feetUntil(d, c, soonest - 1);
            if (feet != NONE) {
                best = a;
                soonest = feet;
            }
        }
        if (best == NONE) {
            return NONE;
        }
        return what == 0 ? numberOf(best) : soonest;
    }

    public int words(int d, int cell) {
        int c = cellOf(cell);
        if (!now.has(d) || c < 0) {
            return BAD;
        }
        if (now.isUp(d)) {
            return STATE;
        }
        trial.copy(now);
        if (trial.feetUntil(d, c, MOST_FEET) != NONE) {
            return 0;
        }
        if (oneWordLeads(d, c)) {
            return 1;
        }
        for (int k = 1; k <= LATEST_SECOND_WORD; k++) {
            if (secondWordLeads(d, c, k)) {
                return 2;
            }
        }
        return NONE;
    }

    public int spread(int d, int n) {
        if (!now.has(d) || !within(n, 0, MOST_FEET_AHEAD)) {
            return BAD;
        }
        if (now.isUp(d)) {
            return STATE;
        }
        long cells = 0L;
        for (int a = 0; a < CELLS; a++) {
            tryAim(d, a);
            trial.goFeet(n, trial.bearingOn(d));
            cells |= 1L << trial.at[d];
        }
        return Long.bitCount(cells);
    }

    public int block(int d, int cell) {
        int c = cellOf(cell);
        if (!now.has(d) || c < 0) {
            return BAD;
        }
        trial.copy(now);
        if (trial.feetUntil(d, c, MOST_FEET) == NONE) {
            return NONE;
        }
        for (int r = 0; r < CELLS; r++) {
            if (now.isRock(r) || now.holdsDigger(r)) {
                continue;
            }
            trial.copy(now);
            trial.setRock(r, true);
            if (trial.feetUntil(d, c, MOST_FEET) == NONE) {
                return numberOf(r);
            }
        }
        return NONE;
    }

    private void tryAim(int d, int a) {
        trial.copy(now);
        trial.aim[d] = a;
    }

    private boolean oneWordLeads(int d, int c) {
        for (int a = 0; a < CELLS; a++) {
            tryAim(d, a);
            if (trial.feetUntil(d, c, MOST_FEET) != NONE) {
                return true;
            }
        }
        return false;
    }

    /**
     * Whether a first word now and a second behind k feet bring digger d to cell c.
     *
     * First words that leave him in one cell with one heading need one look only: what else bears on
     * him (his faith, for a lover those whom he follows) does not depend on what he was told.
     */
    private boolean secondWordLeads(int d, int c, int k) {
        for (int i = 0; i < tried.length; i++) {
            tried[i] = false;
        }
        int who = now.bearingOn(d);
        for (int a = 0; a < CELLS; a++) {
            tryAim(d, a);
            trial.goFeet(k, who);
            int stand = trial.at[d] * HEADINGS + trial.heading[d];
            if (trial.rests(d) || tried[stand]) {
                continue;
            }
            tried[stand] = true;
            if (wordOnTrialLeads(d, c, MOST_FEET - k)) {
                return true;
            }
        }
        return false;
    }

    private boolean wordOnTrialLeads(int d, int c, int feet) {
        for (int b = 0; b < CELLS; b++) {
            branch.copy(trial);
            branch.aim[d] = b;
            if (branch.feetUntil(d, c, feet) != NONE) {
                return true;
            }
        }
        return false;
    }

    // ---- faith by odds

    public long luck(int v, int d, int n, int what) {
        if (!within(v, 0, 10) || !now.has(d) || !within(n, 0, MOST_FEET_AHEAD) || !within(what, 0, 1)) {
            return BAD;
        }
        return lowestTerms(weightedUps(v, n, 1 << d), tenths(), what);
    }

    public long mean(int v, int n, int what) {
        if (!within(v, 0, 10) || !within(n, 0, MOST_FEET_AHEAD) || !within(what, 0, 1)) {
            return BAD;
        }
        return lowestTerms(weightedUps(v, n, EVERYBODY), tenths(), what);
    }

    /** Over all who may lose their faith: their weight times how many of the asked are up. */
    private long weightedUps(int v, int n, int asked) {
        long sum = 0L;
        for (int losers = 0; losers < 1 << now.diggers; losers++) {
            long weight = weightOf(losers, v);
            if (weight == 0L) {
                continue;
            }
            trial.copy(now);
            trial.loseFaith(losers);
            trial.goFeet(n, EVERYBODY);
            sum += weight * Integer.bitCount(trial.up & asked);
        }
        return sum;
    }

    private long weightOf(int losers, int v) {
        long weight = 1L;
        for (int d = 0; d < now.diggers; d++) {
            weight *= (losers >> d & 1) != 0 ? v : 10 - v;
        }
        return weight;
    }

    private long tenths() {
        long all = 1L;
        for (int d = 0; d < now.diggers; d++) {
            all *= 10L;
        }
        return all;
    }

    private static long lowestTerms(long above, long below, int what) {
        long a = above;
        long b = below;
        for (int i = 0; i < 100 && b != 0L; i++) {
            long rest = a % b;
            a = b;
            b = rest;
        }
        if (a == 0L) {
            return what;
        }
        return what == 0 ? above / a : below / a;
    }

    // ---- what he meant

    public int see(int d, int n, int cell) {
        int c = cellOf(cell);
        if (!now.has(d) || !within(n, 0, MOST_FEET) || c < 0) {
            return BAD;
        }
        if (now.seen >= Ground.MOST_SEEN) {
            return FULL;
        }
        now.addSeen(d, n, c);
        return now.seen;
    }

    public int forget(int n) {
        int had = now.seen;
        if (!within(n, 0, had)) {
            return BAD;
        }
        now.seen = n;
        return had;
    }

    public int aims(int d, int what) {
        if (!now.has(d) || !within(what, 0, 1)) {
            return BAD;
        }
        int fitting = 0;
        int first = NONE;
        for (int a = 0; a < CELLS; a++) {
            if (!aimFits(d, a)) {
                continue;
            }
            fitting++;
            if (first == NONE) {
                first = numberOf(a);
            }
        }
        return what == 0 ? fitting : first;
    }

    public int kinds(int d) {
        if (!now.has(d)) {
            return BAD;
        }
        int fitting = 0;
        for (int kind = 0; kind < Ground.KINDS; kind++) {
            trial.copy(now);
            trial.kind[d] = kind;
            if (trial.goesAsSeen()) {
                fitting |= 1 << kind;
            }
        }
        return fitting;
    }

    public int look(int d, int what) {
        if (!now.has(d) || !within(what, 0, 1)) {
            return BAD;
        }
        int fewest = tallyAims(d);
        int best = NONE;
        for (int n = 0; n <= MOST_FEET; n++) {
            int worst = mostInOneCell(n);
            if (worst < fewest) {
                fewest = worst;
                best = n;
            }
        }
        if (best == NONE) {
            return NONE;
        }
        return what == 0 ? best : fewest;
    }

    private boolean aimFits(int d, int a) {
        tryAim(d, a);
        return trial.goesAsSeen();
    }

    /** How many aims fit; tally then has, by feet and cell, how many of them bring him there. */
    private int tallyAims(int d) {
        for (int i = 0; i < tally.length; i++) {
            tally[i] = 0;
        }
        int who = now.bearingOn(d);
        int fitting = 0;
        for (int a = 0; a < CELLS; a++) {
            if (!aimFits(d, a)) {
                continue;
            }
            fitting++;
            tryAim(d, a);
            for (int n = 0; n <= MOST_FEET; n++) {
                tally[n * CELLS + trial.at[d]]++;
                trial.goFoot(who);
            }
        }
        return fitting;
    }

    private int mostInOneCell(int n) {
        int most = 0;
        for (int c = 0; c < CELLS; c++) {
            most = Math.max(most, tally[n * CELLS + c]);
        }
        return most;
    }

    // ---- by a seed

    public int drift(int seed, int n, int what) {
        if (!within(n, 1, MOST_DRIFT) || !within(what, 0, 1)) {
            return BAD;
        }
        if (now.diggers == 0) {
            return STATE;
        }
        trial.copy(now);
        int s = seed;
        for (int i = 0; i < n; i++) {
            s = s * 1103515245 + 12345;
            trial.takeChance(s >>> 16 & 32767);
            trial.goFoot(EVERYBODY);
        }
        return what == 0 ? trial.up : numberOf(trial.at[0]);
    }

    // ---- images, sheets

    public int keep(int k) {
        if (!within(k, 0, 1)) {
            return BAD;
        }
        int was = keptImages >> k & 1;
        image(k).copy(now);
        keptImages |= 1 << k;
        return was;
    }

    public int back(int k) {
        if (!within(k, 0, 1)) {
            return BAD;
        }
        if ((keptImages >> k & 1) == 0) {
            return STATE;
        }
        now.copy(image(k));
        return now.foot;
    }

    private Ground image(int k) {
        return k == 0 ? image0 : image1;
    }

    public int sheet(int k, int lane, int n) {
        if (!Sheets.isSheet(k) || !Sheets.isLane(lane) || n > Sheets.MOST_CELLS) {
            return BAD;
        }
        if (n < 0) {
            return FAULT_BASE - Sheets.SIZE;
        }
        sheets.renew(k, lane, n);
        return 1;
    }

    public int lay(int k, int i, int v) {
        if (!Sheets.isSheet(k)) {
            return BAD;
        }
        int refusal = sheets.faultAt(k, i);
        if (refusal != 0) {
            return FAULT_BASE - refusal;
        }
        sheets.put(k, i, v);
        return 1;
    }

    public int read(int k, int lane, int f, int n) {
        if (!Sheets.isSheet(k) || !Sheets.isLane(lane) || !within(n, 0, MOST_FEET)) {
            return BAD;
        }
        trial.copy(now);
        int met = 0;
        int came = 0;
        for (; came < n; came++) {
            int i = f + 2 * came;
            met = sheets.faultOfPair(k, lane, i);
            if (met != 0) {
                break;
            }
            if (!trial.takeReadWord(sheets.get(k, i), sheets.get(k, i + 1))) {
                return REFUSED_BASE - came;
            }
        }
        now.copy(trial);
        readFault = met;
        return came;
    }

    public int torn() {
        return readFault;
    }

    public int count(int what) {
        switch (what) {
            case 0: return now.seen;
            case 1: return Integer.bitCount(keptImages);
            case 2: return tape.length;
            case 3: return sheets.isThere(0) ? sheets.size[0] : NONE;
            case 4: return now.allFaith();
            default: return BAD;
        }
    }

    // ---- numbers

    private static boolean within(int v, int low, int high) {
        return v >= low && v <= high;
    }

    /** The cell of a number as the document names it; -1: there is none. */
    private static int cellOf(int number) {
        if (number < 0 || number > 77 || number % 10 > 7) {
            return -1;
        }
        return number / 10 * 8 + number % 10;
    }

    private static int numberOf(int cell) {
        return cell / 8 * 10 + cell % 8;
    }

    /** All that a text tells and an image keeps, and how it goes on by feet. */
    private static final class Ground {
        static final int MOST_DIGGERS = 4, MOST_ROCKS = 8, MOST_WORDS = 6, MOST_SEEN = 6, MOST_FAITH = 40;
        static final int KINDS = 4, CYNIC = 1, LOVER = 2, GUARD = 3;
        static final int NORTH = 0, EAST = 1, SOUTH = 2, WEST = 3;
        private static final int FIRST_FAITH = 20;

        int diggers = 0;
        final int[] kind = new int[MOST_DIGGERS];
        final int[] at = new int[MOST_DIGGERS];
        final int[] aim = new int[MOST_DIGGERS];
        final int[] heading = new int[MOST_DIGGERS];
        final int[] faith = new int[MOST_DIGGERS];
        int up = 0;
        long rocks = 0L;
        int foot = 0;
        int words = 0;
        final int[] wordFoot = new int[MOST_WORDS];
        final int[] wordDigger = new int[MOST_WORDS];
        final int[] wordAim = new int[MOST_WORDS];
        int seen = 0;
        final int[] seenDigger = new int[MOST_SEEN];
        final int[] seenFeet = new int[MOST_SEEN];
        final int[] seenCell = new int[MOST_SEEN];

        void clear() {
            diggers = 0;
            up = 0;
            rocks = 0L;
            foot = 0;
            words = 0;
            seen = 0;
            // A text may tell the faith of a digger ahead of himself, so it is set here for all.
            for (int d = 0; d < MOST_DIGGERS; d++) {
                faith[d] = FIRST_FAITH;
                heading[d] = NORTH;
            }
        }

        void copy(Ground from) {
            diggers = from.diggers;
            up = from.up;
            rocks = from.rocks;
            foot = from.foot;
            words = from.words;
            seen = from.seen;
            for (int d = 0; d < diggers; d++) {
                kind[d] = from.kind[d];
                at[d] = from.at[d];
                aim[d] = from.aim[d];
                heading[d] = from.heading[d];
                faith[d] = from.faith[d];
            }
            for (int i = 0; i < words; i++) {
                wordFoot[i] = from.wordFoot[i];
                wordDigger[i] = from.wordDigger[i];
                wordAim[i] = from.wordAim[i];
            }
            for (int i = 0; i < seen; i++) {
                seenDigger[i] = from.seenDigger[i];
                seenFeet[i] = from.seenFeet[i];
                seenCell[i] = from.seenCell[i];
            }
        }

        void addDigger(int newKind, int cell, int newAim) {
            if (diggers < MOST_DIGGERS) {
                kind[diggers] = newKind;
                at[diggers] = cell;
                aim[diggers] = newAim;
                diggers++;
            }
        }

        void addWord(int atFoot, int d, int newAim) {
            if (words < MOST_WORDS) {
                wordFoot[words] = atFoot;
                wordDigger[words] = d;
                wordAim[words] = newAim;
                words++;
            }
        }

        void addSeen(int d, int feet, int cell) {
            if (seen < MOST_SEEN) {
                seenDigger[seen] = d;
                seenFeet[seen] = feet;
                seenCell[seen] = cell;
                seen++;
            }
        }

        boolean has(int d) {
            return d >= 0 && d < diggers;
        }

        boolean isUp(int d) {
            return (up >> d & 1) != 0;
        }

        /** Whether nothing can move him any more. */
        boolean rests(int d) {
            return isUp(d) || faith[d] == 0;
        }

        boolean isRock(int cell) {
            return (rocks >>> cell & 1L) != 0L;
        }

        void setRock(int cell, boolean is) {
            if (is) {
                rocks |= 1L << cell;
            } else {
                rocks &= ~(1L << cell);
            }
        }

        boolean holdsDigger(int cell) {
            for (int d = 0; d < diggers; d++) {
                if (at[d] == cell) {
                    return true;
                }
            }
            return false;
        }

        boolean isDiggerInRock() {
            for (int d = 0; d < diggers; d++) {
                if (isRock(at[d])) {
                    return true;
                }
            }
            return false;
        }

        boolean isWordToNobody() {
            for (int i = 0; i < words; i++) {
                if (wordDigger[i] >= diggers) {
                    return true;
                }
            }
            return false;
        }

        int faithless() {
            int bits = 0;
            for (int d = 0; d < diggers; d++) {
                if (faith[d] == 0) {
                    bits |= 1 << d;
                }
            }
            return bits;
        }

        int allFaith() {
            int sum = 0;
            for (int d = 0; d < diggers; d++) {
                sum += faith[d];
            }
            return sum;
        }

        void loseFaith(int losers) {
            for (int d = 0; d < diggers; d++) {
                if ((losers >> d & 1) != 0) {
                    faith[d] = 0;
                }
            }
        }

        int trait(int d, int what) {
            switch (what) {
                case 0: return kind[d];
                case 1: return numberOf(at[d]);
                case 2: return numberOf(aim[d]);
                case 3: return heading[d];
                case 4: return faith[d];
                default: return isUp(d) ? 1 : 0;
            }
        }

        int change(int d, int what, int v) {
            if (!has(d) || !mayBecome(what, v)) {
                return BAD;
            }
            if (isUp(d)) {
                return STATE;
            }
            int was = trait(d, what);
            switch (what) {
                case 0: kind[d] = v; break;
                case 2: aim[d] = cellOf(v); break;
                case 3: heading[d] = v; break;
                default: faith[d] = v; break;
            }
            return was;
        }

        private static boolean mayBecome(int what, int v) {
            switch (what) {
                case 0: return within(v, 0, KINDS - 1);
                case 2: return cellOf(v) >= 0;
                case 3: return within(v, 0, HEADINGS - 1);
                case 4: return within(v, 0, MOST_FAITH);
                default: return false;
            }
        }

        /** A digger and an aim of a sheet, and the foot behind them; false: refused. */
        boolean takeReadWord(int d, int newAim) {
            if (foot >= LAST_FOOT || change(d, 2, newAim) < 0) {
                return false;
            }
            goFoot(EVERYBODY);
            return true;
        }

        void takeChance(int got) {
            if (diggers == 0) {
                return;
            }
            int d = got % diggers;
            if (!isUp(d)) {
                aim[d] = got / 8 % 8 * 8 + got / 64 % 8;
            }
        }

        /**
         * Those whose feet bear on where digger d goes: diggers never stand in one another's way, so
         * that is he alone, and for a lover the one whom he digs toward, and so on.
         */
        int bearingOn(int d) {
            int who = 1 << d;
            int one = d;
            for (int i = 0; i < diggers && kind[one] == LOVER; i++) {
                one = behind(one);
                who |= 1 << one;
            }
            return who;
        }

        private int behind(int d) {
            return d + 1 < diggers ? d + 1 : 0;
        }

        void goFeet(int n, int who) {
            for (int i = 0; i < n; i++) {
                goFoot(who);
            }
        }

        /** A foot in which only those of who move: all others have to be without bearing on what is asked. */
        void goFoot(int who) {
            for (int i = 0; i < words; i++) {
                if (wordFoot[i] == foot && !isUp(wordDigger[i])) {
                    aim[wordDigger[i]] = wordAim[i];
                }
            }
            for (int d = 0; d < diggers; d++) {
                if ((who >> d & 1) != 0 && !rests(d)) {
                    goOne(d);
                }
            }
            if (foot < LAST_FOOT) {
                foot++;
            }
        }

        private void goOne(int d) {
            faith[d]--;
            if (kind[d] != GUARD) {
                boolean follows = kind[d] == LOVER && diggers > 1;
                int toward = headingTo(at[d], follows ? at[behind(d)] : aim[d]);
                if (toward >= 0) {
                    heading[d] = kind[d] == CYNIC ? rightOf(toward) : toward;
                } else if (kind[d] != LOVER) {
                    up |= 1 << d;
                    return;
                }
            }
            int next = nextCell(at[d], heading[d]);
            if (next >= 0 && !isRock(next)) {
                at[d] = next;
            } else {
                heading[d] = rightOf(heading[d]);
            }
        }

        private static int rightOf(int heading) {
            return heading + 1 & 3;
        }

        /** -1: he is there. */
        private static int headingTo(int from, int to) {
            if (from >> 3 != to >> 3) {
                return to > from ? EAST : WEST;
            }
            if (from == to) {
                return -1;
            }
            return to > from ? NORTH : SOUTH;
        }

        /** -1: the ground ends there. */
        private static int nextCell(int cell, int heading) {
            switch (heading) {
                case NORTH: return (cell & 7) < 7 ? cell + 1 : -1;
                case EAST: return cell < 56 ? cell + 8 : -1;
                case SOUTH: return (cell & 7) > 0 ? cell - 1 : -1;
                default: return cell >= 8 ? cell - 8 : -1;
            }
        }

        /** Goes on until digger d is in the cell: behind how many feet; NONE: not by so many. */
        int feetUntil(int d, int cell, int most) {
            int who = bearingOn(d);
            for (int i = 0; i <= most; i++) {
                if (at[d] == cell) {
                    return i;
                }
                if (rests(d)) {
                    return NONE;
                }
                goFoot(who);
            }
            return NONE;
        }

        boolean twoMeet(int d, int e) {
            return at[d] == at[e] && !isUp(d) && !isUp(e);
        }

        int meetings() {
            int met = 0;
            for (int d = 0; d < diggers; d++) {
                for (int e = d + 1; e < diggers; e++) {
                    if (twoMeet(d, e)) {
                        met++;
                    }
                }
            }
            return met;
        }

        /** Where all are, their headings and who is up, in one number. */
        long outline() {
            long all = up;
            for (int d = 0; d < diggers; d++) {
                all = all << 8 | at[d] << 2 | heading[d];
            }
            return all;
        }

        /** Goes on by feet, as far as was seen, while all is as it was seen. */
        boolean goesAsSeen() {
            int last = -1;
            for (int i = 0; i < seen; i++) {
                last = Math.max(last, seenFeet[i]);
            }
            for (int n = 0; n <= last; n++) {
                if (!isAsSeen(n)) {
                    return false;
                }
                goFoot(EVERYBODY);
            }
            return true;
        }

        private boolean isAsSeen(int n) {
            for (int i = 0; i < seen; i++) {
                if (seenFeet[i] == n && at[seenDigger[i]] != seenCell[i]) {
                    return false;
                }
            }
            return true;
        }
    }

    /** The bytes fed, and the reading of them, token by token. */
    private static final class Tape {
        static final int MOST_BYTES = 160;
        private static final int NO_TOKEN = 0, NAME = 1, NUMBER = 2, STOP = 3, THE_END = 4;
        private static final int UNREADABLE = 1, MISPLACED = 2, OUT_OF_BOUNDS = 3, TOLD_ALREADY = 4;
        private static final int TOO_MANY = 5, NO_SUCH_DIGGER = 6, DIGGER_IN_ROCK = 7;
        private static final int ROCK_LINE = 4, FAITH_LINE = 5, WORD_LINE = 6, LINES = 7;

        private final byte[] bytes = new byte[MOST_BYTES];
        int length = 0;
        /** Where the token read last begins; behind a fault, the fault's place. */
        int place = 0;
        int fault = 0;
        private int next = 0;
        private int sort = THE_END;
        private int faithTold = 0;

        boolean append(int c) {
            if (length >= MOST_BYTES) {
                return false;
            }
            bytes[length] = (byte) c;
            length++;
            return true;
        }

        void rewind() {
            fault = 0;
            next = 0;
            faithTold = 0;
        }

        boolean hasLine() {
            if (fault == 0) {
                readToken();
            }
            return fault == 0 && sort != THE_END;
        }

        /** What can be known only behind the last line. */
        void takeEnd(Ground ground) {
            if (fault != 0) {
                return;
            }
            if (faithTold >> ground.diggers != 0 || ground.isWordToNobody()) {
                fault = NO_SUCH_DIGGER;
            } else if (ground.isDiggerInRock()) {
                fault = DIGGER_IN_ROCK;
            }
        }

        private void readToken() {
            while (next < length && bytes[next] == ' ') {
                next++;
            }
            place = next;
            sort = sortAt(next);
            if (sort == STOP) {
                next++;
            }
            while (next < length && (sort == NAME || sort == NUMBER) && sortAt(next) == sort) {
                next++;
            }
            if (sort == NO_TOKEN || sort == NUMBER && next - place > 2) {
                fault = UNREADABLE;
            }
        }

        /** Of what sort a token is that has its byte there. */
        private int sortAt(int i) {
            if (i >= length) {
                return THE_END;
            }
            int c = bytes[i];
            if (c >= 'a' && c <= 'z') {
                return NAME;
            }
            if (c >= '0' && c <= '9') {
                return NUMBER;
            }
            return c == ';' ? STOP : NO_TOKEN;
        }

        void takeLine(Ground ground) {
            int line = sort == NAME ? lineNamed() : -1;
            if (line < 0) {
                fault = MISPLACED;
            } else if (isFull(ground, line)) {
                fault = TOO_MANY;
            } else if (line < ROCK_LINE) {
                takeDigger(ground, line);
            } else if (line == ROCK_LINE) {
                takeRock(ground);
            } else if (line == FAITH_LINE) {
                takeFaith(ground);
            } else {
                takeWord(ground);
            }
        }

        private int lineNamed() {
            for (int line = 0; line < LINES; line++) {
                if (isSpelled(nameOf(line))) {
                    return line;
                }
            }
            return -1;
        }

        private static String nameOf(int line) {
            switch (line) {
                case 0: return "plain";
                case 1: return "cynic";
                case 2: return "lover";
                case 3: return "guard";
                case ROCK_LINE: return "rock";
                case FAITH_LINE: return "faith";
                default: return "word";
            }
        }

        private boolean isSpelled(String name) {
            if (next - place != name.length()) {
                return false;
            }
            for (int i = 0; i < name.length(); i++) {
                if (bytes[place + i] != name.charAt(i)) {
                    return false;
                }
            }
            return true;
        }

        private static boolean isFull(Ground ground, int line) {
            if (line < ROCK_LINE) {
                return ground.diggers >= Ground.MOST_DIGGERS;
            }
            if (line == ROCK_LINE) {
                return Long.bitCount(ground.rocks) >= Ground.MOST_ROCKS;
            }
            return line == WORD_LINE && ground.words >= Ground.MOST_WORDS;
        }

        private void takeDigger(Ground ground, int kind) {
            int at = takeCell();
            int aim = takeCell();
            if (takeToken(STOP)) {
                ground.addDigger(kind, at, aim);
            }
        }

        private void takeRock(Ground ground) {
            int cell = takeCell();
            if (fault == 0 && ground.isRock(cell)) {
                fault = TOLD_ALREADY;
            }
            if (takeToken(STOP)) {
                ground.setRock(cell, true);
            }
        }

        private void takeFaith(Ground ground) {
            int d = takeNumber(Ground.MOST_DIGGERS - 1);
            if (fault == 0 && (faithTold >> d & 1) != 0) {
                fault = TOLD_ALREADY;
            }
            int faith = takeNumber(Ground.MOST_FAITH);
            if (takeToken(STOP)) {
                ground.faith[d] = faith;
                faithTold |= 1 << d;
            }
        }

        private void takeWord(Ground ground) {
            int foot = takeNumber(MOST_FEET);
            int d = takeNumber(Ground.MOST_DIGGERS - 1);
            int aim = takeCell();
            if (takeToken(STOP)) {
                ground.addWord(foot, d, aim);
            }
        }

        /** Reads on for a token of a sort; behind a fault nothing more is read, so that the first stays. */
        private boolean takeToken(int wantedSort) {
            if (fault == 0) {
                readToken();
            }
            if (fault == 0 && sort != wantedSort) {
                fault = MISPLACED;
            }
            return fault == 0;
        }

        private int takeNumber(int most) {
            if (!takeToken(NUMBER)) {
                return 0;
            }
            int value = valueRead();
            if (value > most) {
                fault = OUT_OF_BOUNDS;
                return 0;
            }
            return value;
        }

        private int takeCell() {
            if (!takeToken(NUMBER)) {
                return 0;
            }
            int cell = cellOf(valueRead());
            if (cell < 0) {
                fault = OUT_OF_BOUNDS;
                return 0;
            }
            return cell;
        }

        private int valueRead() {
            int value = 0;
            for (int i = place; i < next; i++) {
                value = value * 10 + bytes[i] - '0';
            }
            return value;
        }
    }

    /** Rows of numbers of a lane each, and what the machine would find at fault with their use. */
    private static final class Sheets {
        static final int NULL = 1, INDEX = 2, CAST = 3, SIZE = 4;
        static final int MOST_CELLS = 40;
        private static final int SHEETS = 4, BYTES = 0, SHORTS = 1, INTS = 2, NOTHING = -1;

        private final int[] laneOf = new int[SHEETS];
        final int[] size = new int[SHEETS];
        private final int[] cells = new int[SHEETS * MOST_CELLS];

        Sheets() {
            for (int k = 0; k < SHEETS; k++) {
                laneOf[k] = NOTHING;
            }
        }

        static boolean isSheet(int k) {
            return within(k, 0, SHEETS - 1);
        }

        static boolean isLane(int lane) {
            return within(lane, BYTES, INTS);
        }

        boolean isThere(int k) {
            return laneOf[k] != NOTHING;
        }

        void renew(int k, int lane, int n) {
            laneOf[k] = lane;
            size[k] = n;
            for (int i = 0; i < n; i++) {
                cells[k * MOST_CELLS + i] = 0;
            }
        }

        int faultAt(int k, int i) {
            if (!isThere(k)) {
                return NULL;
            }
            return within(i, 0, size[k] - 1) ? 0 : INDEX;
        }

        /** Of the use of cells i and i + 1 of a sheet taken as of a lane. */
        int faultOfPair(int k, int lane, int i) {
            if (isThere(k) && laneOf[k] != lane) {
                return CAST;
            }
            int first = faultAt(k, i);
            return first != 0 ? first : faultAt(k, i + 1);
        }

        void put(int k, int i, int v) {
            cells[k * MOST_CELLS + i] = laneOf[k] == BYTES ? (byte) v : laneOf[k] == SHORTS ? (short) v : v;
        }

        int get(int k, int i) {
            return cells[k * MOST_CELLS + i];
        }
    }
}
