/** The boundary sentences of promises 32 to 38. */
public final class BoundsSheetsTest extends Bounds {
    public static void main(String[] args) throws ReflectiveOperationException {
        run(BoundsSheetsTest.class);
    }

    private static AimTunnel withSheet(String text, int lane, int... cells) {
        AimTunnel x = Check.told(text);
        x.sheet(1, lane, cells.length);
        layAll(x, 1, cells);
        return x;
    }

    // ---- promise 32

    @Says(promise = 32, value = "IMAGE k (0, 1) is DIGGERS, ROCK, WORDS, FOOT, what was SEEN: whether there was one (1, 0).")
    static void p32_keep_whether_there_was_one() {
        AimTunnel x = rich();
        due("keep(0)", x.keep(0), 0);
        due("keep(0) again", x.keep(0), 1);
        due("keep(1), kept before", x.keep(1), 1);
        due("images", x.count(1), 2);
        AimTunnel y = new AimTunnel();
        due("keep(1) of nobody", y.keep(1), 0);
        due("images", y.count(1), 1);
        due("back(0)", y.back(0), STATE);
        due("keep(0)", y.keep(0), 0);
        due("images", y.count(1), 2);
    }

    @Says(promise = 32, value = "IMAGE k (0, 1) is DIGGERS, ROCK, WORDS, FOOT, what was SEEN")
    static void p32_keep_all_of_it() {
        for (int k = 0; k <= 1; k++) {
            int image = k;
            // Kept, all changed, and got back: it is as if nothing had been changed behind keep().
            String difference = Portrait.difference(() -> {
                AimTunnel x = rich();
                x.keep(image);
                return x;
            }, x -> {
                x.alter(1, 0, 3);
                x.alter(1, 2, 77);
                x.alter(1, 3, 2);
                x.alter(1, 4, 40);
                x.stone(10, false);
                x.stone(77, true);
                x.hush(1);
                x.tell(9, 2, 9);
                x.tell(9, 2, 7);
                x.forget(0);
                x.see(2, 2, 2);
                x.dig(20);
                x.back(image);
            });
            holds("back(" + image + ") brings all back, but " + difference, difference == null);
        }
    }

    @Says(promise = 32, value = "BAD.")
    static void p32_keep_BAD() {
        eachRefused(Bounds::rich, "keep", BAD, (x, v) -> x.keep(v), LEAST, -1, 2, MOST);
    }

    // ---- promise 33

    @Says(promise = 33, value = "All is as IMAGE k: FOOT.")
    static void p33_back_all_is_as_the_image() {
        AimTunnel x = rich();
        x.keep(0);
        due("back(1)", x.back(1), 1);
        due("seen", x.count(0), 1);
        due("rocks", x.rule(1), 3);
        due("words", x.rule(2), 2);
        due("up", x.rule(4), 1);
        x.dig(20);
        due("back(0)", x.back(0), 2);
        due("seen", x.count(0), 2);
        due("rocks", x.rule(1), 4);
        due("words", x.rule(2), 3);
        due("back(0) again", x.back(0), 2);
        due("images stay", x.count(1), 2);
        due("the tape stays", x.count(2), 16);
        due("sheets stay", x.count(3), 6);
        due("the fault stays", x.fault(), 1);
        due("what was torn stays", x.torn(), 3);
        // What comes behind back() does not come to the image.
        x.alter(1, 2, 0);
        x.stone(77, true);
        x.hush(0);
        x.forget(0);
        due("back(0)", x.back(0), 2);
        due("his aim", x.digger(1, 2), 41);
        due("rock(77)", x.rock(77), 0);
        due("words", x.rule(2), 3);
        due("seen", x.count(0), 2);
        AimTunnel empty = new AimTunnel();
        empty.keep(0);
        due("back(0) of nobody", empty.back(0), 0);
        AimTunnel last = atFoot("guard 0 0;", 999);
        last.keep(1);
        due("back(1) at 999", last.back(1), 999);
        AimTunnel fewer = new AimTunnel();
        fewer.keep(0);
        Check.feed(fewer, "?");
        fewer.text();
        due("back(0) behind a text that was refused", fewer.back(0), 0);
    }

    @Says(promise = 33, value = "BAD;")
    static void p33_back_BAD() {
        eachRefused(Bounds::rich, "back", BAD, (x, v) -> x.back(v), LEAST, -1, 2, MOST);
        eachRefused(AimTunnel::new, "back of none", BAD, (x, v) -> x.back(v), -1, 2);
    }

    @Says(promise = 33, value = "STATE: there is none.")
    static void p33_back_STATE_there_is_none() {
        refused(Bounds::rich, "back(0)", STATE, x -> x.back(0));
        refused(AimTunnel::new, "back(0) of a new one", STATE, x -> x.back(0));
        refused(AimTunnel::new, "back(1) of a new one", STATE, x -> x.back(1));
        AimTunnel x = rich();
        x.end(0);
        x.text();
        due("back(1) behind a text", x.back(1), STATE);
    }

    // ---- promise 34

    @Says(promise = 34, value = "A SHEET is a new row of CELLS 0: 1.")
    static void p34_sheet_a_new_row_of_cells_0() {
        for (int lane = 0; lane < 3; lane++) {
            AimTunnel x = Check.told("guard 0 77;guard 0 77;");
            x.sheet(0, 2, 40);
            for (int i = 0; i < 40; i++) {
                x.lay(0, i, 1);
            }
            due("sheet(0, " + lane + ", 4)", x.sheet(0, lane, 4), 1);
            due("read", x.read(0, lane, 0, 2), 2);
            due("digger 0 means 0", x.digger(0, 2), 0);
            due("digger 1 means what he meant", x.digger(1, 2), 77);
            x.sheet(0, lane, 40);
            x.alter(0, 2, 77);
            due("read of the end", x.read(0, lane, 36, 2), 2);
            due("digger 0 means 0", x.digger(0, 2), 0);
            due("digger 1 means what he meant", x.digger(1, 2), 77);
        }
    }

    @Says(promise = 34, value = "BAD: also n above 40;")
    static void p34_sheet_BAD() {
        eachRefused(Bounds::rich, "sheet k", BAD, (x, v) -> x.sheet(v, 0, 1), LEAST, -1, 4, MOST);
        eachRefused(Bounds::rich, "sheet lane", BAD, (x, v) -> x.sheet(0, v, 1), LEAST, -1, 3, MOST);
        eachRefused(Bounds::rich, "sheet n", BAD, (x, v) -> x.sheet(0, 0, v), 41, 42, 1000, MOST);
        refused(Bounds::rich, "sheet(0, 3, -1)", BAD, x -> x.sheet(0, 3, -1));
        refused(Bounds::rich, "sheet(4, 0, -1)", BAD, x -> x.sheet(4, 0, -1));
        AimTunnel x = new AimTunnel();
        due("sheet(0, 0, 0)", x.sheet(0, 0, 0), 1);
        due("cells", x.count(3), 0);
        due("sheet(0, 0, 39)", x.sheet(0, 0, 39), 1);
        due("sheet(0, 0, 40)", x.sheet(0, 0, 40), 1);
        due("cells", x.count(3), 40);
        due("sheet(0, 0, 41)", x.sheet(0, 0, 41), BAD);
        due("cells", x.count(3), 40);
        due("sheet(3, 2, 40)", x.sheet(3, 2, 40), 1);
    }

    @Says(promise = 34, value = "-10 - 4.")
    static void p34_sheet_SIZE_below_0() {
        eachRefused(Bounds::rich, "sheet n", -14, (x, v) -> x.sheet(0, 0, v), LEAST, -40, -2, -1);
        eachRefused(Bounds::rich, "sheet n of nothing", -14, (x, v) -> x.sheet(3, 2, v), LEAST, -1);
        due("sheet(0, 0, 0)", rich().sheet(0, 0, 0), 1);
    }

    // ---- promise 35

    private static int aimLaid(int lane, int v) {
        AimTunnel x = Check.told("guard 0 77;");
        x.sheet(3, lane, 2);
        due("lay of " + v, x.lay(3, 1, v), 1);
        int came = x.read(3, lane, 0, 1);
        return came == 1 ? x.digger(0, 2) : came;
    }

    @Says(promise = 35, value = "CELL i of a SHEET becomes v (its lowest bits): 1.")
    static void p35_lay_its_lowest_bits() {
        int[] most = {127, 32767, MOST};
        int[] round = {256, 65536, 0};
        for (int lane = 0; lane < 3; lane++) {
            due("cell 0", aimLaid(lane, 0), 0);
            due("cell 77", aimLaid(lane, 77), 77);
            due("round and on", aimLaid(lane, round[lane] + 12), 12);
            due("round and back", aimLaid(lane, 12 - round[lane]), 12);
            due("the most of the lane", aimLaid(lane, most[lane]), -20);
            due("one more is below 0", aimLaid(lane, most[lane] + 1), -20);
            due("-1", aimLaid(lane, -1), -20);
        }
        due("256 and 12 as a short", aimLaid(1, 256 + 12), -20);
        due("65536 and 12 as an int", aimLaid(2, 65536 + 12), -20);
        due("65536 and 12 as a byte", aimLaid(0, 65536 + 12), 12);
        // 128 as a byte is -128: no digger, no cell; as a short it is 128.
        AimTunnel x = Check.told("guard 0 77;");
        x.sheet(0, 0, 2);
        x.lay(0, 0, 256);
        due("digger 256 as a byte", x.read(0, 0, 0, 1), 1);
        x.sheet(0, 1, 2);
        x.lay(0, 0, 256);
        due("digger 256 as a short", x.read(0, 1, 0, 1), -20);
    }

    @Says(promise = 35, value = "BAD: k;")
    static void p35_lay_BAD() {
        eachRefused(Bounds::rich, "lay k", BAD, (x, v) -> x.lay(v, 0, 1), LEAST, -1, 4, MOST);
        eachRefused(AimTunnel::new, "lay k of a new one", BAD, (x, v) -> x.lay(v, 0, 1), -1, 4);
    }

    @Says(promise = 35, value = "-10 less the FAULT: NULL, INDEX.")
    static void p35_lay_NULL_INDEX() {
        eachRefused(Bounds::rich, "lay i of nothing", -11, (x, v) -> x.lay(3, v, 1), LEAST, -1, 0, 1, MOST);
        eachRefused(Bounds::rich, "lay i of 6", -12, (x, v) -> x.lay(0, v, 1), LEAST, -1, 6, 7, 40, MOST);
        due("lay(0, 5, 1)", rich().lay(0, 5, 1), 1);
        due("lay(0, 0, 1)", rich().lay(0, 0, 1), 1);
        AimTunnel x = rich();
        x.lay(3, 0, 0);
        x.lay(0, 6, 0);
        due("torn() is of read() alone", x.torn(), 3);
    }

    // ---- promise 36

    @Says(promise = 36, value = "n (0 to 20) times a DIGGER, an AIM are read of a SHEET taken as of a lane, two CELLS each from CELL f on, one behind another:")
    static void p36_read_0_to_20_times() {
        for (int lane = 0; lane < 3; lane++) {
            AimTunnel x = Check.told("guard 0 77;faith 0 40;");
            x.sheet(0, lane, 40);
            for (int i = 0; i < 20; i++) {
                x.lay(0, 2 * i + 1, 10 * (i % 8));
            }
            due("read(0, " + lane + ", 0, 0)", x.read(0, lane, 0, 0), 0);
            due("foot", x.rule(3), 0);
            due("his aim", x.digger(0, 2), 77);
            due("read(0, " + lane + ", 0, 1)", x.read(0, lane, 0, 1), 1);
            due("foot", x.rule(3), 1);
            due("his aim", x.digger(0, 2), 0);
            due("read(0, " + lane + ", 38, 1)", x.read(0, lane, 38, 1), 1);
            due("his aim", x.digger(0, 2), 30);
            due("read(0, " + lane + ", 0, 20)", x.read(0, lane, 0, 20), 20);
            due("foot", x.rule(3), 22);
            due("torn", x.torn(), 0);
        }
        AimTunnel odd = withSheet("guard 0 77;guard 1 77;", 0, 9, 0, 50, 1, 60, 9);
        due("from an odd cell on", odd.read(1, 0, 1, 2), 2);
        due("aim of 0", odd.digger(0, 2), 50);
        due("aim of 1", odd.digger(1, 2), 60);
    }

    @Says(promise = 36, value = "that AIM is his then, as by alter(), and a FOOT goes behind each: how many came.")
    static void p36_read_a_foot_goes_behind_each() {
        // North a foot, east a foot, and the other one, whom nothing is told, goes both.
        AimTunnel x = withSheet("plain 33 0;guard 50 0;", 0, 0, 37, 0, 77);
        due("read", x.read(1, 0, 0, 2), 2);
        due("cell of 0", x.digger(0, 1), 44);
        due("cell of 1", x.digger(1, 1), 52);
        due("faith", x.count(4), 36);
        due("foot", x.rule(3), 2);
        // A word of that foot comes behind what is read.
        AimTunnel told = withSheet("plain 33 0;word 0 0 30;", 0, 0, 37);
        told.read(1, 0, 0, 1);
        due("cell", told.digger(0, 1), 32);
        due("aim", told.digger(0, 2), 30);
    }

    @Says(promise = 36, value = "What the machine refuses: those that were whole ahead came (its FAULT is asked by torn()).")
    static void p36_read_torn_those_whole_ahead_came() {
        int[] cells = {0, 10, 0, 20, 0, 30, 0};
        for (int size = 0; size <= 7; size++) {
            int many = size;
            for (int n = 0; n <= 4; n++) {
                AimTunnel x = Check.told("guard 0 77;");
                x.sheet(1, 2, many);
                for (int i = 0; i < many; i++) {
                    x.lay(1, i, cells[i]);
                }
                int whole = Math.min(n, many / 2);
                due("read(1, 2, 0, " + n + ") of " + many, x.read(1, 2, 0, n), whole);
                due("torn()", x.torn(), whole < n ? 2 : 0);
                due("foot", x.rule(3), whole);
                due("aim", x.digger(0, 2), whole == 0 ? 77 : 10 * whole);
            }
        }
    }

    @Says(promise = 36, value = "What the machine refuses: those that were whole ahead came")
    static void p36_read_torn_by_nothing_another_lane_or_the_place() {
        for (int f : new int[] {LEAST, -2, -1, 2, 3, 40, MOST - 1, MOST}) {
            torn(f, 1, 1, 2);
        }
        torn(1, 1, 1, 2);
        torn(0, 0, 1, 3);
        torn(0, 2, 20, 3);
        // Another lane is met ahead of a place that there is not.
        torn(-1, 0, 1, 3);
        AimTunnel none = Check.told("guard 0 77;");
        for (int lane = 0; lane < 3; lane++) {
            due("read of nothing", none.read(1, lane, -1, 1), 0);
            due("torn()", none.torn(), 1);
        }
        due("foot", none.rule(3), 0);
        AimTunnel empty = withSheet("guard 0 77;", 0);
        due("read of no cells", empty.read(1, 0, 0, 1), 0);
        due("torn()", empty.torn(), 2);
    }

    private static void torn(int f, int lane, int n, int fault) {
        AimTunnel x = withSheet("guard 0 77;", 1, 0, 10);
        due("read(1, " + lane + ", " + f + ", " + n + ")", x.read(1, lane, f, n), 0);
        due("torn()", x.torn(), fault);
        due("foot", x.rule(3), 0);
        due("aim", x.digger(0, 2), 77);
    }

    @Says(promise = 36, value = "BAD: k, lane, n;")
    static void p36_read_BAD() {
        eachRefused(Bounds::rich, "read k", BAD, (x, v) -> x.read(v, 0, 0, 1), LEAST, -1, 4, MOST);
        eachRefused(Bounds::rich, "read lane", BAD, (x, v) -> x.read(0, v, 0, 1), LEAST, -1, 3, MOST);
        eachRefused(Bounds::rich, "read n", BAD, (x, v) -> x.read(0, 0, 0, v), LEAST, -1, 21, MOST);
        refused(Bounds::rich, "read(4, 0, 0, 0)", BAD, x -> x.read(4, 0, 0, 0));
        refused(Bounds::rich, "read(3, 3, 0, 0)", BAD, x -> x.read(3, 3, 0, 0));
        due("f is no number that is refused", rich().read(0, 0, MOST, 1), 0);
    }

    @Says(promise = 36, value = "-20 less i: the i-th, whole, is refused by alter() (in whichever way),")
    static void p36_read_refused_by_alter() {
        String two = "guard 0 77;guard 1 77;";
        int[] noDigger = {-1, 2, 3, 4, 127, -128};
        for (int d : noDigger) {
            refused(() -> withSheet(two, 0, 0, 5, 0, 6, d, 7), "read of digger " + d, -22, x -> x.read(1, 0, 0, 3));
            refused(() -> withSheet(two, 0, d, 5, 0, 6, 0, 7), "read of digger " + d, -20, x -> x.read(1, 0, 0, 3));
        }
        int[] noAim = {-1, 8, 78, 80, 127, -128};
        for (int a : noAim) {
            refused(() -> withSheet(two, 0, 0, 5, 1, a, 0, 7), "read of aim " + a, -21, x -> x.read(1, 0, 0, 3));
        }
        // He is up: from the first, or by the foot behind the first.
        refused(Bounds::rich, "read of one who is up", -20, x -> {
            x.lay(0, 0, 0);
            int answer = x.read(0, 0, 0, 1);
            x.lay(0, 0, 1);
            return answer;
        });
        refused(() -> withSheet("plain 5 77;", 2, 0, 5, 0, 6), "read of one who comes up", -21, x -> x.read(1, 2, 0, 2));
        // The 20th of 20.
        AimTunnel last = Check.told("guard 0 77;");
        last.sheet(0, 0, 40);
        last.lay(0, 38, 1);
        due("the 20th of 20", last.read(0, 0, 0, 20), -39);
        due("19 of 20", last.read(0, 0, 0, 19), 19);
    }

    @Says(promise = 36, value = "or FOOT is 999: then none came;")
    static void p36_read_foot_is_999() {
        refused(() -> lastFeet(999), "read(1, 0, 0, 1) at 999", -20, x -> x.read(1, 0, 0, 1));
        refused(() -> lastFeet(998), "read(1, 0, 0, 2) at 998", -21, x -> x.read(1, 0, 0, 2));
        refused(() -> lastFeet(997), "read(1, 0, 0, 3) at 997", -22, x -> x.read(1, 0, 0, 3));
        AimTunnel x = lastFeet(997);
        due("read(1, 0, 0, 2) at 997", x.read(1, 0, 0, 2), 2);
        due("foot", x.rule(3), 999);
        due("read(1, 0, 0, 0) at 999", x.read(1, 0, 0, 0), 0);
    }

    /** At a foot, with a sheet of three words and half a one. */
    private static AimTunnel lastFeet(int foot) {
        AimTunnel x = atFoot("guard 0 77;", foot);
        x.sheet(1, 0, 7);
        layAll(x, 1, 0, 10, 0, 20, 0, 30, 0);
        return x;
    }

    @Says(promise = 36, value = "the first met.")
    static void p36_read_the_first_met() {
        // The second is refused, the third is not whole; and the other way about.
        refused(() -> withSheet("guard 0 77;", 0, 0, 5, 0, 8, 0), "refused ahead of torn", -21, x -> x.read(1, 0, 0, 3));
        AimTunnel torn = withSheet("guard 0 77;", 0, 0, 5, 9);
        due("torn ahead of refused", torn.read(1, 0, 0, 2), 1);
        due("torn()", torn.torn(), 2);
        // Two are refused: the first of them is told.
        refused(() -> withSheet("guard 0 77;", 0, 0, 5, 0, 8, 9, 9), "two are refused", -21, x -> x.read(1, 0, 0, 3));
        // At foot 999 one that is not whole is torn.
        AimTunnel last = lastFeet(999);
        due("half a word at 999", last.read(1, 0, 6, 1), 0);
        due("torn()", last.torn(), 2);
        due("another lane at 999", last.read(1, 1, 0, 1), 0);
        due("torn()", last.torn(), 3);
        due("three and a half at 997", lastFeet(997).read(1, 0, 0, 4), -22);
        due("three and a half at 996", lastFeet(996).read(1, 0, 0, 4), 3);
    }

    // ---- promise 37

    @Says(promise = 37, value = "The FAULT of the latest read() that came to an end; 0.")
    static void p37_torn_of_the_latest_read_that_came_to_an_end() {
        AimTunnel x = Check.told("guard 0 77;");
        due("ahead of all", x.torn(), 0);
        x.read(1, 0, 0, 1);
        due("NULL", x.torn(), 1);
        x.sheet(1, 1, 4);
        due("behind a sheet", x.torn(), 1);
        x.read(1, 1, 0, 3);
        due("INDEX", x.torn(), 2);
        x.read(1, 2, 0, 1);
        due("CAST", x.torn(), 3);
        x.lay(1, 0, 9);
        due("refused", x.read(1, 1, 0, 1), -20);
        due("behind one that was refused", x.torn(), 3);
        due("BAD", x.read(1, 1, 0, 21), BAD);
        due("behind one that was BAD", x.torn(), 3);
        x.text();
        due("behind a text", x.torn(), 3);
        Check.feed(x, "guard 0 77;");
        x.text();
        due("came", x.read(1, 1, 2, 1), 1);
        due("behind one that came whole", x.torn(), 0);
    }

    // ---- promise 38

    @Says(promise = 38, value = "How many: 0 SEEN, 1 IMAGES, 2 bytes on THE TAPE, 3 CELLS of SHEET 0 (NONE: nothing), 4 all FAITH.")
    static void p38_count_each() {
        AimTunnel x = rich();
        int[] counts = {2, 1, 16, 6, 55};
        for (int what = 0; what <= 4; what++) {
            due("count(" + what + ")", x.count(what), counts[what]);
        }
        AimTunnel y = new AimTunnel();
        due("cells of nothing", y.count(3), NONE);
        y.sheet(1, 0, 5);
        due("another sheet", y.count(3), NONE);
        y.sheet(0, 0, 0);
        due("no cells", y.count(3), 0);
        y.sheet(0, 1, 40);
        due("40 cells", y.count(3), 40);
        due("faith of nobody", y.count(4), 0);
        due("all the faith there may be", Check.told("guard 0 0;guard 0 0;guard 0 0;guard 0 0;faith 0 40;faith 1 40;faith 2 40;faith 3 40;").count(4), 160);
        AimTunnel up = Check.told("plain 5 5;guard 0 0;faith 1 1;");
        up.dig(2);
        due("faith of one who is up counts", up.count(4), 19);
    }

    @Says(promise = 38, value = "BAD.")
    static void p38_count_BAD() {
        eachRefused(Bounds::rich, "count", BAD, (x, v) -> x.count(v), LEAST, -1, 5, MOST);
        eachRefused(AimTunnel::new, "count of a new one", BAD, (x, v) -> x.count(v), -1, 5);
    }
}
