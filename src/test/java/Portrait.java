import java.util.ArrayList;
import java.util.List;
import java.util.function.Consumer;

/**
 * All that can be found out of an object by calls, in parts: each part is asked of an object of its own, so that
 * no object comes near its 512th call.
 */
final class Portrait {
    static final int PARTS = 6;

    private final AimTunnel x;
    private final List<String> answers = new ArrayList<>();

    private Portrait(AimTunnel x) {
        this.x = x;
    }

    static List<String> part(int part, AimTunnel x) {
        Portrait p = new Portrait(x);
        switch (part) {
            case 0: p.facts(); p.feet(); break;
            case 1: p.questions(); break;
            case 2: p.tape(); break;
            case 3: p.images(); break;
            case 4: p.sheets(); break;
            default: p.goesOn(); break;
        }
        return p.answers;
    }

    private void note(String call, long answer) {
        answers.add(call + " answers " + answer);
    }

    private void facts() {
        note("fault()", x.fault());
        note("torn()", x.torn());
        for (int what = 0; what <= 5; what++) {
            note("rule(" + what + ")", x.rule(what));
        }
        for (int what = 0; what <= 4; what++) {
            note("count(" + what + ")", x.count(what));
        }
        for (int d = 0; d < x.rule(0); d++) {
            for (int what = 0; what <= 5; what++) {
                note("digger(" + d + ", " + what + ")", x.digger(d, what));
            }
        }
        for (int cell = 0; cell <= 77; cell += cell % 10 == 7 ? 3 : 1) {
            note("rock(" + cell + ")", x.rock(cell));
        }
        for (int i = 0; i < x.rule(2); i++) {
            for (int what = 0; what <= 2; what++) {
                note("word(" + i + ", " + what + ")", x.word(i, what));
            }
        }
    }

    private void feet() {
        for (int what = 0; what <= 3; what++) {
            note("runs(40, " + what + ")", x.runs(40, what));
        }
        note("ring(0)", x.ring(0));
        note("ring(1)", x.ring(1));
        for (int d = 0; d < x.rule(0); d++) {
            note("ahead(" + d + ", 1)", x.ahead(d, 1));
            note("ahead(" + d + ", 7)", x.ahead(d, 7));
            note("ahead(" + d + ", 40)", x.ahead(d, 40));
            note("reaches(" + d + ", 52)", x.reaches(d, 52));
            note("meet(" + d + ", 0)", x.meet(d, 0));
        }
    }

    private void questions() {
        for (int d = 0; d < x.rule(0); d++) {
            note("aim(" + d + ", 33, 40, 0)", x.aim(d, 33, 40, 0));
            note("words(" + d + ", 33)", x.words(d, 33));
            note("spread(" + d + ", 9)", x.spread(d, 9));
            note("block(" + d + ", 52)", x.block(d, 52));
            note("luck(3, " + d + ", 20, 0)", x.luck(3, d, 20, 0));
            note("aims(" + d + ", 0)", x.aims(d, 0));
            note("aims(" + d + ", 1)", x.aims(d, 1));
            note("kinds(" + d + ")", x.kinds(d));
            note("look(" + d + ", 0)", x.look(d, 0));
            note("look(" + d + ", 1)", x.look(d, 1));
        }
        note("mean(3, 20, 0)", x.mean(3, 20, 0));
        note("drift(9, 60, 0)", x.drift(9, 60, 0));
        note("drift(9, 7, 1)", x.drift(9, 7, 1));
    }

    /** What is on the tape shows when it is taken as a text. */
    private void tape() {
        note("text()", x.text());
        facts();
        note("feed(59)", x.feed(59));
    }

    private void images() {
        note("back(1)", x.back(1));
        facts();
        note("aims(0, 0)", x.aims(0, 0));
        note("back(0)", x.back(0));
        facts();
        note("aims(0, 0)", x.aims(0, 0));
    }

    /** What is on the sheets shows by what it makes diggers mean, and by where they end. */
    private void sheets() {
        for (int k = 0; k < 4; k++) {
            for (int lane = 0; lane < 3; lane++) {
                for (int f = 0; f < 6; f += 2) {
                    note("read(" + k + ", " + lane + ", " + f + ", 1)", x.read(k, lane, f, 1));
                    note("torn()", x.torn());
                    note("digger(1, 2)", x.digger(1, 2));
                    note("digger(2, 2)", x.digger(2, 2));
                }
            }
            int end = 0;
            while (end <= 40 && x.lay(k, end, 0) == 1) {
                end++;
            }
            note("cells of sheet " + k, end);
            note("lay(" + k + ", " + end + ", 0)", x.lay(k, end, 0));
        }
    }

    private void goesOn() {
        note("dig(2)", x.dig(2));
        facts();
        note("tell(3, 0, 0)", x.tell(3, 0, 0));
        note("hush(0)", x.hush(0));
        note("see(0, 0, 0)", x.see(0, 0, 0));
        note("forget(0)", x.forget(0));
        note("keep(0)", x.keep(0));
        note("keep(1)", x.keep(1));
        note("end(0)", x.end(0));
        note("text()", x.text());
        facts();
    }

    /** What differs first in the portraits of two objects made alike, when a call is made on one of them; null: nothing. */
    static String difference(java.util.function.Supplier<AimTunnel> made, Consumer<AimTunnel> call) {
        for (int part = 0; part < PARTS; part++) {
            AimTunnel called = made.get();
            call.accept(called);
            List<String> with = part(part, called);
            List<String> without = part(part, made.get());
            if (!with.equals(without)) {
                return firstDifference(with, without);
            }
        }
        return null;
    }

    private static String firstDifference(List<String> with, List<String> without) {
        for (int i = 0; i < Math.min(with.size(), without.size()); i++) {
            if (!with.get(i).equals(without.get(i))) {
                return with.get(i) + ", without that call " + without.get(i);
            }
        }
        return "other calls";
    }
}
