import java.util.ArrayList;
import java.util.List;
import java.util.function.Supplier;
import java.util.function.ToIntFunction;

/**
 * Objects that must be the same to every call: two are made, in ways that must come to the same, and then asked all
 * that can be asked. Each look takes new objects, as looks change them and an object is used for 512 calls at most.
 */
final class Twins {
    private static final String ORGAN = "roof 3 0;roof 2 1;peg gutter 1 spout 0;peg spout 1 gutter 2;peg spout 2 spout 3;"
            + "spout 0 leak 7;spout 1 tip 5;spout 2 join 2 4;spout 3 each 4;spout 4 tip 9;spout 5 slate;"
            + "rain 1 2 0 3 1;rain 4;tune 1 3 0 9;sleep 0 1 3;sleep 2 4 4;wear 40;";

    /** What is asked of one object in one look. */
    private interface Look {
        void at(RainOrgan x, List<Integer> answers);
    }

    private static final Look[] LOOKS = {
        Twins::parts, Twins::showers, Twins::byHand, Twins::rainOn, Twins::sheets, Twins::tape,
        (x, answers) -> image(x, 0, answers), (x, answers) -> image(x, 1, answers)};

    private Twins() {
    }

    /** An object with something of all that an object can have. */
    static RainOrgan busy() {
        RainOrgan x = Check.told(ORGAN);
        x.rain(2);
        x.rain(1);
        x.keep(0);
        x.rain(3);
        x.peg(1, 2);
        x.peg(0, 0);
        x.block(2, true);
        x.rain(1);
        x.cup(5, 5);
        x.tells(4, 77);
        x.draws(1, 3, 5, 99);
        x.sheet(0, 0, 5);
        x.sheet(1, 1, 3);
        x.sheet(2, 2, 0);
        for (int i = 0; i < 5; i++) {
            x.lay(0, i, i + 1);
        }
        x.lay(1, 1, 10);
        Check.feed(x, "wear");
        x.organ();
        x.read(0, 0, 3, 5);
        // drops come to all cups once more, so that some are counted and on the way now
        x.block(2, false);
        x.rain(2);
        x.block(2, true);
        Check.feed(x, "tune 9;");
        return x;
    }

    /** The call answers so, and no other call can tell whether it was made. */
    static void changesNothing(String name, Supplier<RainOrgan> maker, ToIntFunction<RainOrgan> call, int answer) {
        Check.due(name, call.applyAsInt(maker.get()), answer);
        same(name, () -> {
            RainOrgan x = maker.get();
            call.applyAsInt(x);
            return x;
        }, maker);
    }

    static void same(String name, Supplier<RainOrgan> one, Supplier<RainOrgan> other) {
        for (int i = 0; i < LOOKS.length; i++) {
            sameAt(name, i, one, other);
        }
    }

    /** As same(), but for the tape. */
    static void sameButTheTape(String name, Supplier<RainOrgan> one, Supplier<RainOrgan> other) {
        same(name, () -> withoutTape(one), () -> withoutTape(other));
    }

    private static RainOrgan withoutTape(Supplier<RainOrgan> maker) {
        RainOrgan x = maker.get();
        x.end(0);
        return x;
    }

    private static void sameAt(String name, int look, Supplier<RainOrgan> one, Supplier<RainOrgan> other) {
        List<Integer> got = new ArrayList<>();
        List<Integer> want = new ArrayList<>();
        LOOKS[look].at(one.get(), got);
        LOOKS[look].at(other.get(), want);
        int same = 0;
        while (same < want.size() && got.get(same).equals(want.get(same))) {
            same++;
        }
        Check.due(name + ": answers that are the same in look " + look, same, want.size());
    }

    private static void parts(RainOrgan x, List<Integer> answers) {
        for (int what = 0; what < 7; what++) {
            answers.add(x.rule(what));
        }
        for (int g = 0; g < 5; g++) {
            for (int what = 0; what < 4; what++) {
                answers.add(x.gutter(g, what));
            }
        }
        for (int s = 0; s < 8; s++) {
            for (int what = 0; what < 8; what++) {
                answers.add(x.spout(s, what));
            }
        }
        for (int i = 0; i < 12; i++) {
            answers.add(x.tune(i));
        }
        for (int w = 0; w < 3; w++) {
            for (int i = -1; i < 12; i++) {
                answers.add(x.shower(w, i));
            }
        }
        answers.add(x.fault());
        answers.add(x.torn());
        for (int what = 0; what < 5; what++) {
            answers.add(x.count(what));
        }
        int settings = x.settings(0);
        answers.add(settings);
        x.settings(settings);
    }

    private static void showers(RainOrgan x, List<Integer> answers) {
        for (int w = 0; w < 3; w++) {
            for (int i = 0; i < 12; i++) {
                answers.add(x.plays(w, i));
            }
            for (int what = 0; what < 8; what++) {
                answers.add(x.falls(w, what));
                answers.add(x.lasts(w, what));
            }
            for (int what = 0; what < 3; what++) {
                answers.add(x.best(w, what));
                answers.add(x.fewest(w, what));
                answers.add(x.quiet(w, what));
            }
            answers.add(x.far(w));
            answers.add(x.woken(w));
            answers.add(x.blocked(w));
            answers.add(x.frozen(w));
        }
        for (int what = 0; what < 2; what++) {
            answers.add(x.all(what));
            answers.add(x.heard(what));
        }
    }

    private static void byHand(RainOrgan x, List<Integer> answers) {
        for (int what = 0; what < 6; what++) {
            answers.add(x.water(what));
        }
        for (int s = 0; s < 8; s++) {
            for (int what = 4; what < 8; what++) {
                answers.add(x.spout(s, what));
            }
            answers.add(x.loud(s));
        }
    }

    /** Rain tells what no call does: counts of cups, whether the SECOND is even. */
    private static void rainOn(RainOrgan x, List<Integer> answers) {
        x.block(2, false);
        for (int v = 0; v < 5; v++) {
            answers.add(x.rain(v));
            byHand(x, answers);
        }
        answers.add(x.dry());
        answers.add(x.rain(1));
        byHand(x, answers);
    }

    private static void sheets(RainOrgan x, List<Integer> answers) {
        for (int k = 0; k < 4; k++) {
            for (int lane = 0; lane < 3; lane++) {
                for (int i = -1; i < 6; i++) {
                    answers.add(x.read(k, lane, i, 1));
                    answers.add(x.torn());
                    answers.add(x.water(1));
                }
            }
        }
    }

    private static void tape(RainOrgan x, List<Integer> answers) {
        answers.add(x.count(3));
        answers.add(x.organ());
        answers.add(x.fault());
        parts(x, answers);
    }

    private static void image(RainOrgan x, int k, List<Integer> answers) {
        answers.add(x.back(k));
        byHand(x, answers);
        parts(x, answers);
        x.block(2, false);
        answers.add(x.rain(3));
        byHand(x, answers);
    }
}
