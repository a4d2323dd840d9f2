/** Promises 17 to 32: showers, the tune, settings, what it was. */
public final class ShowerTest {
    /** One gutter over two slates: LEFT sounds 1, RIGHT sounds 2, both 3 (of two drops). */
    private static final String TWO = "roof 2 0;peg spout 0 spout 1;spout 0 slate;spout 1 slate;";

    public static void main(String[] args) {
        showers();
        falls();
        byItself();
        tune();
        far();
        best();
        fewest();
        all();
        quiet();
        woken();
        heard();
        blocked();
        frozen();
        lasts();
        draws();
        Check.finish("ShowerTest");
    }

    private static int[] falls(RainOrgan x, int w) {
        int[] row = new int[8];
        for (int what = 0; what < 8; what++) {
            row[what] = x.falls(w, what);
        }
        return row;
    }

    private static int[] waters(RainOrgan x) {
        return new int[] {x.water(0), x.water(1), x.water(2), x.water(3), x.water(4), x.water(5)};
    }

    private static void showers() {
        RainOrgan x = Check.told(TWO + "rain 1 0 9;rain 0;rain 1 2 3 4 5 6 7 8 9 8 7 6;");
        Check.dues("shower 0", new int[] {x.shower(0, -1), x.shower(0, 0), x.shower(0, 1), x.shower(0, 2), x.shower(0, 3)},
                3, 1, 0, 9, Check.BAD);
        Check.dues("shower 1", new int[] {x.shower(1, -1), x.shower(1, 0), x.shower(1, 1)}, 1, 0, Check.BAD);
        Check.dues("shower 2", new int[] {x.shower(2, -1), x.shower(2, 8), x.shower(2, 11), x.shower(2, 12)},
                12, 9, 6, Check.BAD);
        Check.due("shower(3, -1)", x.shower(3, -1), Check.BAD);
        Check.due("shower(-1, -1)", x.shower(-1, -1), Check.BAD);
        Check.due("shower(0, -2)", x.shower(0, -2), Check.BAD);
        Check.dues("plays", new int[] {x.plays(0, 0), x.plays(0, 1), x.plays(0, 2), x.plays(0, 3), x.plays(0, -1)},
                3, 0, 3, Check.BAD, Check.BAD);
        Check.due("plays(1, 0)", x.plays(1, 0), 0);
        Check.due("plays(2, 11)", x.plays(2, 11), 3);
        Check.due("plays(2, 12)", x.plays(2, 12), Check.BAD);
        Check.due("plays(3, 0)", x.plays(3, 0), Check.BAD);
        Check.due("plays(-1, 0)", x.plays(-1, 0), Check.BAD);
        x.peg(0, 1);
        Check.due("plays(0, 0) to the right", x.plays(0, 0), 2);
        x.block(0, true);
        Check.due("plays(0, 0) blocked", x.plays(0, 0), 0);
        x.block(0, false);
        x.cup(1, 5);
        Check.due("plays(0, 0) frozen", x.plays(0, 0), 0);
    }

    private static void falls() {
        RainOrgan x = Check.told("roof 3 0;peg spout 0 spout 1;spout 0 tip 2;spout 1 join 1 2;spout 2 leak 9;spout 3 slate;"
                + "rain 1 1 3 0;rain 0 0;rain 0 2;wear 6;");
        // SECOND 0: 2 left (tips once), 1 right (tips once, 1 on the way)
        // SECOND 1: 1 left, 2 right (tips twice), 1 leaks away
        // SECOND 2: 5 left (6: tips three times, 0 stay), 4 right (tips four times), 2 come, 1 leaks
        // SECOND 3: 4 come: 5, 1 leaks
        Check.dues("falls 0", falls(x, 0), 15, 11, 4, 0, 11, 2, 7, 12);
        Check.dues("falls 1", falls(x, 1), 0, 0, 0, 0, 0, Check.NONE, 0, 15);
        Check.dues("falls 2", falls(x, 2), 6, 2, 1, 3, 4, 1, 0, 12);
        Check.due("falls(0, 8)", x.falls(0, 8), Check.BAD);
        Check.due("falls(0, -1)", x.falls(0, -1), Check.BAD);
        Check.due("falls(3, 0)", x.falls(3, 0), Check.BAD);
        Check.due("falls(-1, 0)", x.falls(-1, 0), Check.BAD);
        x = Check.told(TWO + "rain 0 1 1 0;");
        Check.due("the first of several", x.falls(0, 5), 1);
    }

    private static void byItself() {
        RainOrgan x = Check.told("roof 3 0;peg spout 0 spout 1;spout 0 tip 4;spout 1 each 3;rain 1 1 1;wear 5;");
        int[] alone = {x.plays(0, 0), x.plays(0, 1), x.plays(0, 2)};
        Check.dues("plays", alone, 0, 2, 1);
        x.rain(1);
        x.rain(2);
        x.rain(1);
        int[] water = waters(x);
        Check.dues("plays behind rain by hand", new int[] {x.plays(0, 0), x.plays(0, 1), x.plays(0, 2)}, alone);
        x.falls(0, 0);
        x.best(0, 0);
        x.fewest(0, 0);
        x.all(0);
        x.quiet(0, 0);
        x.woken(0);
        x.tells(0, 1);
        x.heard(0);
        x.blocked(0);
        x.frozen(0);
        x.lasts(0, 0);
        x.draws(0, 3, 3, 3);
        Check.dues("by hand nothing has changed", waters(x), water);
        Check.due("peg", x.gutter(0, 2), 2);
        Check.due("block", x.gutter(0, 3), 0);
        Check.due("kind", x.spout(0, 1), 1);
        Check.due("broken by hand", x.count(1), 2);
    }

    private static void tune() {
        RainOrgan x = Check.told("tune 5 255 0;");
        Check.dues("tune", new int[] {x.tune(0), x.tune(1), x.tune(2), x.tune(3), x.tune(-1)}, 5, 255, 0, Check.BAD, Check.BAD);
        Check.due("tells(1, 7)", x.tells(1, 7), 3);
        Check.due("tells(3, 255)", x.tells(3, 255), 4);
        Check.due("tells(5, 1)", x.tells(5, 1), Check.BAD);
        Check.due("tells(-1, 1)", x.tells(-1, 1), Check.BAD);
        Check.due("tells(0, 256)", x.tells(0, 256), Check.BAD);
        Check.due("tells(0, -1)", x.tells(0, -1), Check.BAD);
        Check.dues("tune", new int[] {x.tune(0), x.tune(1), x.tune(2), x.tune(3), x.tune(4)}, 5, 7, 0, 255, Check.BAD);
        for (int i = 4; i < 12; i++) {
            Check.due("tells(" + i + ", 0)", x.tells(i, 0), i + 1);
        }
        Check.due("tells(12, 0)", x.tells(12, 0), Check.FULL);
        Check.due("tells(12, 256)", x.tells(12, 256), Check.BAD);
        Check.due("tells(13, 0)", x.tells(13, 0), Check.BAD);
        Check.due("tells(11, 9)", x.tells(11, 9), 12);
        Check.due("tune(11)", x.tune(11), 9);
        Check.due("tune(12)", x.tune(12), Check.BAD);
        Check.due("rule(4)", x.rule(4), 12);
        x = new RainOrgan();
        Check.due("tells(1, 0) of none", x.tells(1, 0), Check.BAD);
        Check.due("tells(0, 9) of none", x.tells(0, 9), 1);
    }

    private static void far() {
        RainOrgan x = Check.told(TWO + "rain 1 1 1;rain 1;tune 3 0;");
        Check.due("a longer shower", x.far(0), 4);
        Check.due("a shorter shower", x.far(1), 0);
        x.tells(2, 255);
        Check.due("a tone that is missing counts", x.far(0), 8);
        Check.due("a second that there is not has none", x.far(1), 8);
        x.tells(0, 4);
        Check.due("both ways", x.far(1), 11);
        Check.due("far(2)", x.far(2), Check.BAD);
        Check.due("far(-1)", x.far(-1), Check.BAD);
    }

    private static void best() {
        RainOrgan x = Check.told("roof 2 0;peg spout 0 gutter 1;peg spout 1 ground;spout 0 slate;spout 1 slate;rain 1;tune 1;");
        // LEFT at gutter 0: 1 whatever gutter 1 is; RIGHT: 2 or none; both: 1 and 1 drop: 3, or 1 with gutter 1 RIGHT
        Check.dues("best of 1", new int[] {x.best(0, 0), x.best(0, 1), x.best(0, 2)}, 0, 0, 4);
        x.tells(0, 2);
        Check.dues("best of 2", new int[] {x.best(0, 0), x.best(0, 1), x.best(0, 2)}, 1, 0, 2);
        x.tells(0, 6);
        Check.dues("best of 6", new int[] {x.best(0, 0), x.best(0, 1), x.best(0, 2)}, 1, 1, 2);
        x.block(1, true);
        x.tells(0, 2);
        Check.dues("best of 2, blocked", new int[] {x.best(0, 0), x.best(0, 1), x.best(0, 2)}, 1, 1, 3);
        Check.due("best(0, 3)", x.best(0, 3), Check.BAD);
        Check.due("best(0, -1)", x.best(0, -1), Check.BAD);
        Check.due("best(1, 0)", x.best(1, 0), Check.BAD);
        Check.due("best(-1, 0)", x.best(-1, 0), Check.BAD);
        Check.due("the pegs are as they were", x.settings(0), 8);
        x = Check.told("rain 1;tune 7;");
        Check.dues("without gutters", new int[] {x.best(0, 0), x.best(0, 1), x.best(0, 2)}, 0, 3, 1);
    }

    private static void fewest() {
        RainOrgan x = Check.told("roof 2 0;peg spout 0 gutter 1;peg spout 1 ground;spout 0 slate;spout 1 slate;rain 1;tune 1;");
        // 0, 3, 6 and 5 play it; now: 8 (both, both)
        Check.dues("fewest of 1", new int[] {x.fewest(0, 0), x.fewest(0, 1)}, 5, 1);
        x.settings(3);
        Check.dues("as it is", new int[] {x.fewest(0, 0), x.fewest(0, 1)}, 3, 0);
        x.settings(4);
        Check.dues("of two the least", new int[] {x.fewest(0, 0), x.fewest(0, 1)}, 3, 1);
        x.tells(0, 2);
        Check.dues("fewest of 2", new int[] {x.fewest(0, 0), x.fewest(0, 1)}, 1, 1);
        x.settings(5);
        Check.dues("two pegs", new int[] {x.fewest(0, 0), x.fewest(0, 1)}, 1, 2);
        Check.due("fewest(0, 2)", x.fewest(0, 2), Check.BAD);
        Check.due("fewest(0, -1)", x.fewest(0, -1), Check.BAD);
        Check.due("fewest(1, 0)", x.fewest(1, 0), Check.BAD);
        Check.due("fewest(-1, 0)", x.fewest(-1, 0), Check.BAD);
        Check.due("the pegs are as they were", x.settings(0), 5);
    }

    private static void all() {
        RainOrgan x = Check.told(TWO + "rain 1;rain 1 1;rain 0 1 1;tune 1 1;");
        // LEFT: 0|1, 0, 1|0|1; RIGHT: 2+1, 4, 1+2+1; both: 1+1, 2, 1+1+2
        Check.dues("all", new int[] {x.all(0), x.all(1)}, 0, 3);
        x.tells(0, 2);
        x.tells(1, 2);
        Check.dues("all", new int[] {x.all(0), x.all(1)}, 1, 3);
        x.tells(0, 3);
        x.tells(1, 3);
        Check.dues("all", new int[] {x.all(0), x.all(1)}, 2, 6);
        x.tells(0, 4);
        x.tells(1, 0);
        Check.dues("of several the least", new int[] {x.all(0), x.all(1)}, 0, 8);
        Check.due("all(2)", x.all(2), Check.BAD);
        Check.due("all(-1)", x.all(-1), Check.BAD);
        Check.due("the peg is as it was", x.settings(0), 2);
        x = Check.told("tune 1;");
        Check.due("without showers", x.all(0), Check.STATE);
        Check.due("without showers", x.all(1), Check.STATE);
        Check.due("BAD comes first", x.all(2), Check.BAD);
    }

    private static void quiet() {
        RainOrgan x = Check.told(TWO + "rain 1 1;tune 3 3;sleep 0 1 2;");
        // both slates sound by PEG 2 alone
        Check.dues("quiet", new int[] {x.quiet(0, 0), x.quiet(0, 1), x.quiet(0, 2)}, 0, 2, 2);
        x.tells(0, 2);
        Check.dues("quiet", new int[] {x.quiet(0, 0), x.quiet(0, 1), x.quiet(0, 2)}, 1, 1, 2);
        Check.due("best wakes him", x.best(0, 0), 1);
        Check.due("quiet(0, 3)", x.quiet(0, 3), Check.BAD);
        Check.due("quiet(0, -1)", x.quiet(0, -1), Check.BAD);
        Check.due("quiet(1, 0)", x.quiet(1, 0), Check.BAD);
        Check.due("quiet(-1, 0)", x.quiet(-1, 0), Check.BAD);
        Check.due("the peg is as it was", x.settings(1), 2);
        Check.dues("from another peg", new int[] {x.quiet(0, 0), x.quiet(0, 1), x.quiet(0, 2)}, 1, 1, 2);
        x = Check.told(TWO + "rain 1;tune 3;sleep 0 0 1;");
        Check.dues("all wake him", new int[] {x.quiet(0, 0), x.quiet(0, 1), x.quiet(0, 2)}, Check.NONE, Check.NONE, 0);
        x = Check.told(TWO + "rain 1;tune 3;");
        Check.dues("nobody there", new int[] {x.quiet(0, 0), x.quiet(0, 1), x.quiet(0, 2)}, 2, 0, 3);
    }

    private static void woken() {
        RainOrgan x = Check.told("roof 6 0;peg spout 0 spout 1;spout 0 tip 1;spout 1 slate;rain 1 0 1;rain 0;"
                + "sleep 0 0 4;sleep 1 1 1;sleep 1 11 4;sleep 0 11 5;");
        // 3 times and once in SECONDS 0 and 2
        Check.due("woken(0)", x.woken(0), 5);
        x.peg(0, 0);
        Check.due("woken(0), all left", x.woken(0), 13);
        x.peg(0, 1);
        Check.due("woken(0), all right", x.woken(0), 0);
        Check.due("woken(1)", x.woken(1), 0);
        Check.due("woken(2)", x.woken(2), Check.BAD);
        Check.due("woken(-1)", x.woken(-1), Check.BAD);
        x = Check.told("roof 1 0;peg spout 0 spout 0;spout 0 slate;rain 0 1 0 1;sleep 0 0 1;sleep 2 2 1;sleep 1 1 1;sleep 2 3 1;");
        Check.due("from the first to the last", x.woken(0), 12);
    }

    private static void heard() {
        RainOrgan x = Check.told("roof 1 0;peg spout 0 spout 0;spout 0 tip 2;tune 0 1;");
        // 0 2, 0 3, 1 1, 1 2, 1 3
        Check.dues("heard", new int[] {x.heard(0), x.heard(1)}, 5, 2);
        x.tells(0, 1);
        // 2 2, 2 3, 3 1, 3 2, 3 3
        Check.dues("heard", new int[] {x.heard(0), x.heard(1)}, 5, 10);
        x.tells(0, 2);
        Check.dues("heard never", new int[] {x.heard(0), x.heard(1)}, 0, Check.NONE);
        Check.due("heard(2)", x.heard(2), Check.BAD);
        Check.due("heard(-1)", x.heard(-1), Check.BAD);
        x = Check.told("roof 1 0;peg spout 0 spout 0;spout 0 slate;tune 0 1 0 0 1;");
        Check.dues("heard of 5", new int[] {x.heard(0), x.heard(1)}, 9, 65);
        x.tells(4, 0);
        x.tells(5, 0);
        Check.due("heard of 6", x.heard(0), Check.STATE);
        Check.due("heard of 6", x.heard(1), Check.STATE);
        Check.due("BAD comes first", x.heard(2), Check.BAD);
        x = Check.told("tune 0;");
        Check.dues("heard of nothing", new int[] {x.heard(0), x.heard(1)}, 4, 0);
    }

    private static void blocked() {
        String organ = "roof 2 0;roof 2 1;roof 2 2;peg spout 0 spout 0;peg spout 1 spout 1;peg spout 2 spout 2;"
                + "peg spout 0 spout 0;spout 0 slate;spout 1 slate;spout 2 slate;rain 1 0;rain 0;";
        RainOrgan x = Check.told(organ + "tune 5;");
        Check.due("gutter 1", x.blocked(0), 2);
        x.tells(0, 4);
        Check.due("none alone", x.blocked(0), 0);
        x.block(0, true);
        Check.due("besides gutter 0", x.blocked(0), 2);
        x.tells(0, 6);
        Check.due("as it is, whatever the dry gutter is", x.blocked(0), 32 + 8);
        Check.due("the blocks are as they were", x.count(0), 1);
        Check.due("gutter 0 is", x.gutter(0, 3), 1);
        x.block(0, false);
        Check.due("gutter 0", x.blocked(0), 1);
        x.tells(0, 0);
        Check.due("no rain at all", x.blocked(1), 32 + 15);
        Check.due("blocked(2)", x.blocked(2), Check.BAD);
        Check.due("blocked(-1)", x.blocked(-1), Check.BAD);
    }

    private static void frozen() {
        RainOrgan x = Check.told("roof 6 0;peg gutter 1 spout 2;peg spout 0 spout 1;spout 0 slate;spout 1 slate;spout 1 slate;"
                + "spout 3 tip 1;rain 1 1;rain 0;tune 2 2;");
        Check.due("spout 0", x.frozen(0), 1);
        x.tells(0, 3);
        x.tells(1, 3);
        Check.due("others of its tone, or one that is dry", x.frozen(0), 2 + 4 + 8);
        x.cup(2, 5);
        Check.due("besides spout 2", x.frozen(0), 8);
        x.tells(0, 1);
        x.tells(1, 1);
        Check.due("besides spout 2", x.frozen(0), 2);
        Check.dues("the kinds are as they were", new int[] {x.spout(0, 1), x.spout(1, 1), x.spout(2, 1), x.spout(3, 1)},
                0, 0, 5, 1);
        x.tells(1, 0);
        Check.due("none alone", x.frozen(0), 0);
        Check.due("frozen(2)", x.frozen(2), Check.BAD);
        Check.due("frozen(-1)", x.frozen(-1), Check.BAD);
    }

    private static void lasts() {
        RainOrgan x = Check.told("roof 1 0;peg spout 0 spout 1;spout 0 slate;spout 1 tip 9;rain 1 1 1;rain 0 0;rain 9;wear 99;");
        // SECONDS go on: of six drops three go each way
        Check.dues("lasts 0", new int[] {x.lasts(0, 0), x.lasts(0, 1)}, 66, 66);
        Check.dues("lasts 1", new int[] {x.lasts(1, 0), x.lasts(1, 1)}, Check.NONE, Check.NONE);
        // 5, 9, 14, 18 .. and 4, 9, 13, 18 ..
        Check.dues("lasts 2", new int[] {x.lasts(2, 0), x.lasts(2, 1)}, 22, 22);
        x = Check.told("roof 1 0;peg spout 0 spout 1;spout 0 slate;spout 1 tip 9;rain 1;rain 2;rain 9;wear 50;");
        Check.dues("one drop a time", new int[] {x.lasts(0, 0), x.lasts(0, 1)}, 99, Check.NONE);
        Check.dues("two drops", new int[] {x.lasts(1, 0), x.lasts(1, 1)}, 50, 50);
        Check.dues("nine drops", new int[] {x.lasts(2, 0), x.lasts(2, 1)}, 11, 12);
        Check.due("lasts(3, 0)", x.lasts(3, 0), Check.BAD);
        Check.due("lasts(-1, 0)", x.lasts(-1, 0), Check.BAD);
        Check.due("lasts(0, 2)", x.lasts(0, 2), Check.BAD);
        Check.due("lasts(0, -1)", x.lasts(0, -1), Check.BAD);
        // without getting dry: what is on the way arrives in the next shower
        x = Check.told("roof 1 0;peg spout 0 spout 0;spout 0 join 2 1;spout 1 slate;rain 1;wear 4;");
        Check.dues("on the way", new int[] {x.lasts(0, 0), x.lasts(0, 1)}, 4, 5);
        x = Check.told("roof 9 0;peg spout 0 spout 0;spout 0 slate;rain 9;");
        Check.due("without wear", x.lasts(0, 0), Check.NONE);
    }

    private static void draws() {
        RainOrgan x = Check.told(TWO + "rain 1 2 3;rain 5;tune 1;");
        int seed = -77;
        int sum = 0;
        int[] rain = new int[12];
        for (int i = 0; i < 12; i++) {
            seed = seed * 1103515245 + 12345;
            rain[i] = (seed >> 16 & 32767) % 10;
            sum += rain[i];
        }
        Check.due("draws(0, 12, 10, -77)", x.draws(0, 12, 10, -77), sum);
        Check.due("its seconds", x.shower(0, -1), 12);
        for (int i = 0; i < 12; i++) {
            Check.due("second " + i, x.shower(0, i), rain[i]);
        }
        Check.due("the other shower stays", x.shower(1, 0), 5);
        Check.due("shorter", x.draws(0, 1, 1, 9), 0);
        Check.due("its seconds", x.shower(0, -1), 1);
        Check.due("no second more", x.shower(0, 1), Check.BAD);
        Check.due("n 0", x.draws(0, 0, 1, 9), Check.BAD);
        Check.due("n 13", x.draws(0, 13, 1, 9), Check.BAD);
        Check.due("m 0", x.draws(0, 1, 0, 9), Check.BAD);
        Check.due("m 11", x.draws(0, 1, 11, 9), Check.BAD);
        Check.due("m -1", x.draws(0, 1, -1, 9), Check.BAD);
        Check.due("w 2", x.draws(2, 1, 1, 9), Check.BAD);
        Check.due("w -1", x.draws(-1, 1, 1, 9), Check.BAD);
        Check.due("what is refused changes nothing", x.shower(0, -1), 1);
    }
}
