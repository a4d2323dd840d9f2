import java.util.function.Supplier;
import java.util.function.ToIntFunction;

/** Boundary cases of the document's Terms: what the answers mean, which comes first, what a refused call leaves. */
public final class EdgeTermsTest {
    /** As much of everything as there may be. */
    private static final String MOST = "roof9 4;".repeat(4) + "peg ground ground;".repeat(5) + "spout7slate;".repeat(8)
            + "rain9;".repeat(3) + "tune1;" + "sleep0 11 9;".repeat(4) + "wear999;";

    /** One of everything. */
    private static final String ONE = "roof 1 0;peg spout 0 ground;spout 0 tip 3;rain 1 2;tune 1;sleep 0 0 1;wear 5;";

    /** A call with one number left open. */
    private interface Open {
        int on(RainOrgan x, int v);
    }

    public static void main(String[] args) {
        answers();
        numbersOfWhat();
        numbersOfParts();
        numbersOfValues();
        numbersOfImagesAndSheets();
        firstThatFits();
        refusedCallsChangeNothing();
        callsThatOnlyAskChangeNothing();
        numberedAsItComes();
        Check.finish("EdgeTermsTest");
    }

    private static RainOrgan most() {
        RainOrgan x = Check.told(MOST);
        for (int k = 0; k < 4; k++) {
            x.sheet(k, k % 3, 40);
        }
        x.keep(0);
        x.keep(1);
        return x;
    }

    /** Of least to most none is BAD; what is one below, one above, far below, far above is, and changes nothing. */
    private static void bounds(String call, Supplier<RainOrgan> maker, int least, int most, Open open) {
        for (int v : new int[] {least, most}) {
            boolean bad = open.on(maker.get(), v) == Check.BAD;
            Check.due(call + " of " + v + " is BAD", bad ? 1 : 0, 0);
        }
        for (int v : new int[] {least - 1, most + 1, Integer.MIN_VALUE, Integer.MAX_VALUE}) {
            Twins.changesNothing(call + " of " + v, maker, x -> open.on(x, v), Check.BAD);
        }
    }

    /** There are none: every number is BAD. */
    private static void none(String call, Open open) {
        for (int v : new int[] {0, 1, -1, Integer.MIN_VALUE, Integer.MAX_VALUE}) {
            Twins.changesNothing(call + " of " + v + ", there are none", RainOrgan::new, x -> open.on(x, v), Check.BAD);
        }
    }

    private static void answers() {
        Check.says("BAD -1 (a number is not as told,");
        Check.due("BAD", RainOrgan.BAD, -1);
        Check.says("STATE -2 (as told), FULL -3, NONE -4 (there is none)");
        Check.due("STATE", RainOrgan.STATE, -2);
        Check.due("FULL", RainOrgan.FULL, -3);
        Check.due("NONE", RainOrgan.NONE, -4);
    }

    private static void numbersOfWhat() {
        Check.says("a number is not as told");
        Supplier<RainOrgan> busy = Twins::busy;
        bounds("rule(what)", busy, 0, 6, (x, v) -> x.rule(v));
        bounds("gutter(0, what)", busy, 0, 3, (x, v) -> x.gutter(0, v));
        bounds("spout(0, what)", busy, 0, 7, (x, v) -> x.spout(0, v));
        bounds("water(what)", busy, 0, 5, (x, v) -> x.water(v));
        bounds("falls(0, what)", busy, 0, 7, (x, v) -> x.falls(0, v));
        bounds("best(0, what)", busy, 0, 2, (x, v) -> x.best(0, v));
        bounds("fewest(0, what)", busy, 0, 1, (x, v) -> x.fewest(0, v));
        bounds("all(what)", busy, 0, 1, (x, v) -> x.all(v));
        bounds("quiet(0, what)", busy, 0, 2, (x, v) -> x.quiet(0, v));
        bounds("heard(what)", busy, 0, 1, (x, v) -> x.heard(v));
        bounds("count(what)", busy, 0, 4, (x, v) -> x.count(v));
    }

    private static void numbersOfParts() {
        Check.says("there is no such ROOF, GUTTER, SPOUT, SHOWER, SECOND, SLEEPER, IMAGE, SHEET");
        partsUpTo(EdgeTermsTest::most, 5, 8, 3);
        partsUpTo(Twins::busy, 3, 6, 2);
        partsUpTo(() -> Check.told(ONE), 1, 1, 1);
        none("gutter(g, 0)", (x, v) -> x.gutter(v, 0));
        none("peg(g, 0)", (x, v) -> x.peg(v, 0));
        none("block(g, true)", (x, v) -> x.block(v, true));
        none("spout(s, 0)", (x, v) -> x.spout(v, 0));
        none("cup(s, 0)", (x, v) -> x.cup(v, 0));
        none("loud(s)", (x, v) -> x.loud(v));
        none("shower(w, -1)", (x, v) -> x.shower(v, -1));
        none("plays(w, 0)", (x, v) -> x.plays(v, 0));
        none("falls(w, 0)", (x, v) -> x.falls(v, 0));
        none("far(w)", (x, v) -> x.far(v));
        none("best(w, 0)", (x, v) -> x.best(v, 0));
        none("fewest(w, 0)", (x, v) -> x.fewest(v, 0));
        none("quiet(w, 2)", (x, v) -> x.quiet(v, 2));
        none("woken(w)", (x, v) -> x.woken(v));
        none("blocked(w)", (x, v) -> x.blocked(v));
        none("frozen(w)", (x, v) -> x.frozen(v));
        none("lasts(w, 0)", (x, v) -> x.lasts(v, 0));
        none("draws(w, 1, 1, 1)", (x, v) -> x.draws(v, 1, 1, 1));
        none("tune(i)", (x, v) -> x.tune(v));
    }

    private static void partsUpTo(Supplier<RainOrgan> maker, int gutters, int spouts, int showers) {
        bounds("gutter(g, 0)", maker, 0, gutters - 1, (x, v) -> x.gutter(v, 0));
        bounds("peg(g, 0)", maker, 0, gutters - 1, (x, v) -> x.peg(v, 0));
        bounds("block(g, true)", maker, 0, gutters - 1, (x, v) -> x.block(v, true));
        bounds("block(g, false)", maker, 0, gutters - 1, (x, v) -> x.block(v, false));
        bounds("spout(s, 0)", maker, 0, spouts - 1, (x, v) -> x.spout(v, 0));
        bounds("cup(s, 0)", maker, 0, spouts - 1, (x, v) -> x.cup(v, 0));
        bounds("cup(s, 5)", maker, 0, spouts - 1, (x, v) -> x.cup(v, 5));
        bounds("loud(s)", maker, 0, spouts - 1, (x, v) -> x.loud(v));
        bounds("lasts(0, s)", maker, 0, spouts - 1, (x, v) -> x.lasts(0, v));
        bounds("shower(w, -1)", maker, 0, showers - 1, (x, v) -> x.shower(v, -1));
        bounds("shower(w, 0)", maker, 0, showers - 1, (x, v) -> x.shower(v, 0));
        bounds("plays(w, 0)", maker, 0, showers - 1, (x, v) -> x.plays(v, 0));
        bounds("falls(w, 0)", maker, 0, showers - 1, (x, v) -> x.falls(v, 0));
        bounds("far(w)", maker, 0, showers - 1, (x, v) -> x.far(v));
        bounds("best(w, 0)", maker, 0, showers - 1, (x, v) -> x.best(v, 0));
        bounds("fewest(w, 0)", maker, 0, showers - 1, (x, v) -> x.fewest(v, 0));
        bounds("quiet(w, 2)", maker, 0, showers - 1, (x, v) -> x.quiet(v, 2));
        bounds("woken(w)", maker, 0, showers - 1, (x, v) -> x.woken(v));
        bounds("blocked(w)", maker, 0, showers - 1, (x, v) -> x.blocked(v));
        bounds("frozen(w)", maker, 0, showers - 1, (x, v) -> x.frozen(v));
        bounds("lasts(w, 0)", maker, 0, showers - 1, (x, v) -> x.lasts(v, 0));
        bounds("draws(w, 1, 1, 1)", maker, 0, showers - 1, (x, v) -> x.draws(v, 1, 1, 1));
    }

    private static void numbersOfValues() {
        Check.says("a number is not as told, there is no such ROOF, GUTTER, SPOUT, SHOWER, SECOND");
        Supplier<RainOrgan> busy = Twins::busy;
        bounds("end(n)", busy, 0, 7, (x, v) -> x.end(v));
        bounds("peg(0, v)", busy, 0, 2, (x, v) -> x.peg(0, v));
        bounds("settings(v)", busy, 0, 26, (x, v) -> x.settings(v));
        bounds("settings(v) of five", EdgeTermsTest::most, 0, 242, (x, v) -> x.settings(v));
        bounds("settings(v) of one", () -> Check.told(ONE), 0, 2, (x, v) -> x.settings(v));
        bounds("settings(v) of none", RainOrgan::new, 0, 0, (x, v) -> x.settings(v));
        bounds("rain(v)", busy, 0, 9, (x, v) -> x.rain(v));
        bounds("shower(0, i)", busy, -1, 4, (x, v) -> x.shower(0, v));
        bounds("shower(1, i)", busy, -1, 2, (x, v) -> x.shower(1, v));
        bounds("plays(0, i)", busy, 0, 4, (x, v) -> x.plays(0, v));
        bounds("plays(1, i)", busy, 0, 2, (x, v) -> x.plays(1, v));
        bounds("tune(i)", busy, 0, 4, (x, v) -> x.tune(v));
        bounds("tells(i, 1)", busy, 0, 5, (x, v) -> x.tells(v, 1));
        bounds("tells(0, v)", busy, 0, 255, (x, v) -> x.tells(0, v));
        bounds("tells(5, v)", busy, 0, 255, (x, v) -> x.tells(5, v));
        bounds("draws(0, n, 1, 1)", busy, 1, 12, (x, v) -> x.draws(0, v, 1, 1));
        bounds("draws(0, 1, m, 1)", busy, 1, 10, (x, v) -> x.draws(0, 1, v, 1));
    }

    private static void numbersOfImagesAndSheets() {
        Check.says("there is no such ROOF, GUTTER, SPOUT, SHOWER, SECOND, SLEEPER, IMAGE, SHEET), STATE -2");
        Supplier<RainOrgan> busy = Twins::busy;
        bounds("keep(k)", busy, 0, 1, (x, v) -> x.keep(v));
        bounds("back(k)", busy, 0, 1, (x, v) -> x.back(v));
        bounds("sheet(k, 0, 1)", busy, 0, 3, (x, v) -> x.sheet(v, 0, 1));
        bounds("sheet(0, lane, 1)", busy, 0, 2, (x, v) -> x.sheet(0, v, 1));
        bounds("lay(k, 0, 1)", busy, 0, 3, (x, v) -> x.lay(v, 0, 1));
        bounds("read(k, 0, 0, 1)", busy, 0, 3, (x, v) -> x.read(v, 0, 0, 1));
        bounds("read(k, 0, 0, 0)", busy, 0, 3, (x, v) -> x.read(v, 0, 0, 0));
        bounds("read(0, lane, 0, 1)", busy, 0, 2, (x, v) -> x.read(0, v, 0, 1));
        bounds("read(0, 0, 0, n)", busy, 0, 12, (x, v) -> x.read(0, 0, 0, v));
    }

    private static void firstThatFits() {
        Check.says("the first that fits");
        RainOrgan x = new RainOrgan();
        Check.due("BAD ahead of STATE: all(2)", x.all(2), Check.BAD);
        Check.due("BAD ahead of STATE: heard(-1)", x.heard(-1), Check.BAD);
        Check.due("BAD ahead of STATE: back(2)", x.back(2), Check.BAD);
        Check.due("STATE ahead of NONE: heard(1)", x.heard(1), Check.STATE);
        x = Check.told("tune 0 0 0 0 0 0 0 0 0 0 0 0;rain 1;sleep 0 0 1;");
        Check.due("BAD ahead of FULL: tells(12, 256)", x.tells(12, 256), Check.BAD);
        Check.due("BAD ahead of FULL: tells(12, -1)", x.tells(12, -1), Check.BAD);
        Check.due("BAD ahead of FULL: tells(13, 0)", x.tells(13, 0), Check.BAD);
        Check.due("FULL: tells(12, 0)", x.tells(12, 0), Check.FULL);
        Check.due("BAD ahead of NONE: falls(1, 5)", x.falls(1, 5), Check.BAD);
        Check.due("BAD ahead of NONE: quiet(1, 0)", x.quiet(1, 0), Check.BAD);
        Check.due("BAD ahead of NONE: lasts(0, 0)", x.lasts(0, 0), Check.BAD);
        Check.due("BAD ahead of NONE: spout(0, 3)", x.spout(0, 3), Check.BAD);
        Check.due("BAD ahead of SIZE: sheet(4, 0, -1)", x.sheet(4, 0, -1), Check.BAD);
        Check.due("BAD ahead of SIZE: sheet(0, 3, -1)", x.sheet(0, 3, -1), Check.BAD);
        Check.due("BAD ahead of NULL: lay(4, 0, 0)", x.lay(4, 0, 0), Check.BAD);
        Check.due("BAD ahead of what the machine refuses: read(0, 0, 0, 13)", x.read(0, 0, 0, 13), Check.BAD);
        Check.due("BAD ahead of what the machine refuses: read(0, 3, 0, 1)", x.read(0, 3, 0, 1), Check.BAD);
    }

    private static RainOrgan with(ToIntFunction<RainOrgan> call) {
        RainOrgan x = Twins.busy();
        call.applyAsInt(x);
        return x;
    }

    private static RainOrgan fullTape() {
        RainOrgan x = Twins.busy();
        while (x.count(3) <= 312) {
            x.feed(0x2020202020202020L);
        }
        return x;
    }

    private static RainOrgan longTune() {
        RainOrgan x = Twins.busy();
        for (int i = 5; i < 12; i++) {
            x.tells(i, i);
        }
        return x;
    }

    private static void refusedCallsChangeNothing() {
        Check.says("what is refused changes nothing");
        Supplier<RainOrgan> busy = Twins::busy;
        Twins.changesNothing("feed, FULL", EdgeTermsTest::fullTape, x -> x.feed(-1L), Check.FULL);
        Twins.changesNothing("tells, FULL", EdgeTermsTest::longTune, x -> x.tells(12, 3), Check.FULL);
        Twins.changesNothing("back, STATE", busy, x -> x.back(1), Check.STATE);
        Twins.changesNothing("heard, STATE", EdgeTermsTest::longTune, x -> x.heard(0), Check.STATE);
        Twins.changesNothing("all, STATE", RainOrgan::new, x -> x.all(0), Check.STATE);
        for (int kind = 1; kind <= 4; kind++) {
            int no = kind;
            Twins.changesNothing("cup(1, " + no + ")", busy, x -> x.cup(1, no), Check.BAD);
        }
        for (int no : new int[] {-1, 6, Integer.MIN_VALUE, Integer.MAX_VALUE}) {
            Twins.changesNothing("cup(1, " + no + ")", busy, x -> x.cup(1, no), Check.BAD);
        }
        Twins.changesNothing("sheet, n 41", busy, x -> x.sheet(0, 0, 41), Check.BAD);
        Twins.changesNothing("sheet, n most", busy, x -> x.sheet(0, 0, Integer.MAX_VALUE), Check.BAD);
        Twins.changesNothing("sheet, SIZE", busy, x -> x.sheet(0, 0, -1), -14);
        Twins.changesNothing("sheet of nothing, SIZE", busy, x -> x.sheet(3, 0, Integer.MIN_VALUE), -14);
        Twins.changesNothing("lay, NULL", busy, x -> x.lay(3, 0, 1), -11);
        Twins.changesNothing("lay, INDEX below", busy, x -> x.lay(0, -1, 1), -12);
        Twins.changesNothing("lay, INDEX above", busy, x -> x.lay(0, 5, 1), -12);
        Twins.changesNothing("read, no rain", busy, x -> x.read(1, 1, 0, 3), -21);
        Check.says("(but THE TAPE, as told)");
        for (String text : new String[] {"!", "roof", "roof 0 0;", "wear 1;wear", "rain 1;rain 2;rain 3;rain", "roof 9 0;"}) {
            Supplier<RainOrgan> failed = () -> with(x -> {
                x.end(0);
                Check.feed(x, text);
                return x.organ();
            });
            int fault = failed.get().fault();
            Check.due("count(3) behind the fault of " + text, failed.get().count(3), 0);
            // The busy object's latest text had fault 2: where this one has another, that alone is another answer.
            if (fault == 2) {
                Twins.sameButTheTape("organ() of " + text, failed, busy);
            } else {
                Twins.sameButTheTape("organ() of " + text, () -> refail(failed.get()), busy);
            }
        }
    }

    private static RainOrgan refail(RainOrgan x) {
        x.end(0);
        Check.feed(x, ";");
        x.organ();
        return x;
    }

    private static void callsThatOnlyAskChangeNothing() {
        Check.says("A SHOWER, by itself: CUPS empty, counts 0, HITS none, nothing BROKEN, nothing ON THE WAY, SECOND 0");
        Supplier<RainOrgan> busy = Twins::busy;
        RainOrgan asked = Twins.busy();
        for (int w = 0; w < 2; w++) {
            int now = w;
            for (int i = 0; i < 3; i++) {
                int what = i;
                Twins.changesNothing("plays", busy, x -> x.plays(now, what), asked.plays(w, i));
                Twins.changesNothing("best", busy, x -> x.best(now, what), asked.best(w, i));
                Twins.changesNothing("fewest", busy, x -> x.fewest(now, what), asked.fewest(w, i));
                Twins.changesNothing("quiet", busy, x -> x.quiet(now, what), asked.quiet(w, i));
                Twins.changesNothing("all", busy, x -> x.all(what), asked.all(i));
                Twins.changesNothing("heard", busy, x -> x.heard(what), asked.heard(i));
                Twins.changesNothing("lasts", busy, x -> x.lasts(now, what), asked.lasts(w, i));
            }
            for (int i = 0; i < 8; i++) {
                int what = i;
                Twins.changesNothing("falls", busy, x -> x.falls(now, what), asked.falls(w, i));
            }
            Twins.changesNothing("far", busy, x -> x.far(now), asked.far(w));
            Twins.changesNothing("woken", busy, x -> x.woken(now), asked.woken(w));
            Twins.changesNothing("blocked", busy, x -> x.blocked(now), asked.blocked(w));
            Twins.changesNothing("frozen", busy, x -> x.frozen(now), asked.frozen(w));
        }
    }

    private static void numberedAsItComes() {
        Check.says("What is numbered has its numbers from 0 on, as it comes");
        RainOrgan x = Check.told("spout 5 slate;rain 7;peg ground spout 1;spout 6 frozen;rain 8 8;peg spout 0 ground;roof 2 1;");
        Check.dues("TONES of SPOUTS 0 and 1", new int[] {x.spout(0, 0), x.spout(1, 0)}, 5, 6);
        Check.dues("RIGHT of GUTTERS 0 and 1", new int[] {x.gutter(0, 1), x.gutter(1, 1)}, 11, 20);
        Check.dues("SHOWERS 0 and 1", new int[] {x.shower(0, 0), x.shower(1, 0)}, 7, 8);
        Check.dues("SECONDS of them", new int[] {x.shower(0, -1), x.shower(1, -1)}, 1, 2);
        x = Check.told("roof 1 0;peg spout 0 spout 0;spout 0 slate;rain 1;sleep 0 0 2;sleep 0 0 1;");
        Check.due("SLEEPER 1 is the second one", x.woken(0), 2);
    }
}
