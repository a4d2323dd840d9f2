/** Promises 1 and 6 to 16: a new object, the organ's parts, rain by hand. */
public final class HandTest {
    public static void main(String[] args) {
        newObject();
        parts();
        pegsAndSettings();
        blocks();
        ways();
        slate();
        tip();
        leak();
        each();
        join();
        joinBothWays();
        frozen();
        wear();
        wearByDropsThatGoRound();
        cups();
        dry();
        Check.finish("HandTest");
    }

    private static int[] waters(RainOrgan x) {
        return new int[] {x.water(0), x.water(1), x.water(2), x.water(3), x.water(4), x.water(5)};
    }

    private static int[] spouts(RainOrgan x, int what, int many) {
        int[] row = new int[many];
        for (int s = 0; s < many; s++) {
            row[s] = x.spout(s, what);
        }
        return row;
    }

    private static void newObject() {
        RainOrgan x = new RainOrgan();
        for (int what = 0; what <= 6; what++) {
            Check.due("rule(" + what + ")", x.rule(what), 0);
        }
        Check.due("rule(7)", x.rule(7), Check.BAD);
        Check.due("rule(-1)", x.rule(-1), Check.BAD);
        Check.due("gutter(0, 0)", x.gutter(0, 0), Check.BAD);
        Check.due("spout(0, 0)", x.spout(0, 0), Check.BAD);
        Check.due("peg(0, 0)", x.peg(0, 0), Check.BAD);
        Check.due("block(0, true)", x.block(0, true), Check.BAD);
        Check.due("cup(0, 0)", x.cup(0, 0), Check.BAD);
        Check.due("settings(0)", x.settings(0), 0);
        Check.due("settings(1)", x.settings(1), Check.BAD);
        Check.due("rain(9)", x.rain(9), 0);
        Check.dues("water", waters(x), 1, 0, 0, 0, 0, 0);
        Check.due("dry()", x.dry(), 1);
        Check.due("loud(0)", x.loud(0), Check.BAD);
        Check.due("shower(0, -1)", x.shower(0, -1), Check.BAD);
        Check.due("plays(0, 0)", x.plays(0, 0), Check.BAD);
        Check.due("falls(0, 0)", x.falls(0, 0), Check.BAD);
        Check.due("tune(0)", x.tune(0), Check.BAD);
        Check.due("far(0)", x.far(0), Check.BAD);
        Check.due("best(0, 0)", x.best(0, 0), Check.BAD);
        Check.due("fewest(0, 0)", x.fewest(0, 0), Check.BAD);
        Check.due("all(0)", x.all(0), Check.STATE);
        Check.due("quiet(0, 0)", x.quiet(0, 0), Check.BAD);
        Check.due("woken(0)", x.woken(0), Check.BAD);
        Check.due("heard(0)", x.heard(0), Check.STATE);
        Check.due("blocked(0)", x.blocked(0), Check.BAD);
        Check.due("frozen(0)", x.frozen(0), Check.BAD);
        Check.due("lasts(0, 0)", x.lasts(0, 0), Check.BAD);
        Check.due("draws(0, 1, 1, 0)", x.draws(0, 1, 1, 0), Check.BAD);
        Check.due("back(0)", x.back(0), Check.STATE);
        Check.due("torn()", x.torn(), 0);
        Check.dues("count", new int[] {x.count(0), x.count(1), x.count(2), x.count(3), x.count(4)}, 0, 0, 0, 0, Check.NONE);
        for (int k = 0; k < 4; k++) {
            Check.due("lay on nothing", x.lay(k, 0, 0), -11);
        }
    }

    private static void parts() {
        RainOrgan x = Check.told("peg gutter 2 spout 1;peg ground gutter 4;peg spout 5 ground;peg gutter 4 gutter 4;"
                + "peg spout 0 spout 5;spout 3 slate;spout 4 tip 5;spout 7 leak 30;spout 0 each 1;spout 1 join 9 0;"
                + "spout 2 frozen;rain 3;tune 1 2;sleep 0 5 9;wear 7;roof 9 4;roof 1 0;");
        Check.dues("rule", new int[] {x.rule(0), x.rule(1), x.rule(2), x.rule(3), x.rule(4), x.rule(5), x.rule(6)},
                2, 5, 6, 1, 2, 1, 7);
        int[] left = {2, 20, 15, 4, 10};
        int[] right = {11, 4, 20, 4, 15};
        for (int g = 0; g < 5; g++) {
            Check.dues("gutter " + g, new int[] {x.gutter(g, 0), x.gutter(g, 1), x.gutter(g, 2), x.gutter(g, 3)},
                    left[g], right[g], 2, 0);
        }
        Check.due("gutter(5, 0)", x.gutter(5, 0), Check.BAD);
        Check.due("gutter(-1, 0)", x.gutter(-1, 0), Check.BAD);
        Check.due("gutter(0, 4)", x.gutter(0, 4), Check.BAD);
        Check.due("gutter(0, -1)", x.gutter(0, -1), Check.BAD);
        Check.dues("tones", spouts(x, 0, 6), 3, 4, 7, 0, 1, 2);
        Check.dues("kinds", spouts(x, 1, 6), 0, 1, 2, 3, 4, 5);
        Check.dues("n", spouts(x, 2, 6), 0, 5, 30, 1, 9, 0);
        Check.dues("others", spouts(x, 3, 6), -4, -4, -4, -4, 0, -4);
        for (int what = 4; what <= 7; what++) {
            Check.dues("what " + what, spouts(x, what, 6), 0, 0, 0, 0, 0, 0);
        }
        Check.due("spout(6, 0)", x.spout(6, 0), Check.BAD);
        Check.due("spout(-1, 0)", x.spout(-1, 0), Check.BAD);
        Check.due("spout(0, 8)", x.spout(0, 8), Check.BAD);
        Check.due("spout(0, -1)", x.spout(0, -1), Check.BAD);
    }

    private static void pegsAndSettings() {
        RainOrgan x = Check.told("peg ground ground;".repeat(5));
        Check.due("settings at first", x.settings(0), 242);
        Check.due("peg(0)", x.gutter(0, 2), 0);
        Check.due("peg(4)", x.gutter(4, 2), 0);
        Check.due("settings(1 + 2 * 3 + 1 * 27)", x.settings(34), 0);
        Check.dues("pegs", new int[] {x.gutter(0, 2), x.gutter(1, 2), x.gutter(2, 2), x.gutter(3, 2), x.gutter(4, 2)},
                1, 2, 0, 1, 0);
        Check.due("peg(4, 2)", x.peg(4, 2), 0);
        Check.due("peg(4, 2) again", x.peg(4, 2), 2);
        Check.due("peg(1, 0)", x.peg(1, 0), 2);
        Check.due("peg(0, 3)", x.peg(0, 3), Check.BAD);
        Check.due("peg(0, -1)", x.peg(0, -1), Check.BAD);
        Check.due("peg(5, 0)", x.peg(5, 0), Check.BAD);
        Check.due("peg(-1, 0)", x.peg(-1, 0), Check.BAD);
        Check.due("settings(243)", x.settings(243), Check.BAD);
        Check.due("settings(-1)", x.settings(-1), Check.BAD);
        Check.due("settings(242)", x.settings(242), 1 + 27 + 2 * 81);
        Check.due("settings(5)", x.settings(5), 242);
        Check.tell(x, "peg ground ground;peg ground ground;");
        Check.due("settings(9)", x.settings(9), Check.BAD);
        Check.due("settings(8)", x.settings(8), 8);
        Check.due("peg(2, 0)", x.peg(2, 0), Check.BAD);
    }

    private static void blocks() {
        RainOrgan x = Check.told("roof 2 0;roof 3 1;peg gutter 1 gutter 1;peg spout 0 spout 0;spout 0 slate;");
        Check.due("block(0, false)", x.block(0, false), 0);
        Check.due("block(0, true)", x.block(0, true), 0);
        Check.due("block(0, true) again", x.block(0, true), 1);
        Check.due("gutter(0, 3)", x.gutter(0, 3), 1);
        Check.due("gutter(1, 3)", x.gutter(1, 3), 0);
        Check.due("block(2, true)", x.block(2, true), Check.BAD);
        Check.due("block(-1, true)", x.block(-1, true), Check.BAD);
        Check.due("count(0)", x.count(0), 1);
        Check.due("rain(1)", x.rain(1), 1);
        Check.due("hits", x.spout(0, 5), 3);
        Check.dues("water", waters(x), 1, 5, 5, 0, 0, 1);
        Check.due("block(1, true)", x.block(1, true), 0);
        Check.due("count(0)", x.count(0), 2);
        Check.due("rain(1)", x.rain(1), 0);
        Check.due("hits", x.spout(0, 5), 3);
        Check.dues("water", waters(x), 2, 10, 10, 0, 0, 1);
        Check.due("block(0, false)", x.block(0, false), 1);
        Check.due("rain(2)", x.rain(2), 0);
        Check.due("block(1, false)", x.block(1, false), 1);
        Check.due("count(0)", x.count(0), 0);
        Check.due("rain(2)", x.rain(2), 1);
        Check.due("hits", x.spout(0, 5), 13);
    }

    private static void ways() {
        // an odd drop goes LEFT in even SECONDS, RIGHT in odd ones, at every gutter
        RainOrgan x = Check.told("roof 5 0;peg gutter 1 spout 0;peg spout 1 ground;spout 0 slate;spout 1 slate;");
        Check.due("rain(1)", x.rain(1), 3);
        Check.dues("hits", spouts(x, 5, 2), 2, 2);
        Check.due("run off", x.water(2), 5);
        x.rain(1);
        Check.dues("hits", spouts(x, 5, 2), 5, 3);
        x.rain(2);
        Check.dues("hits", spouts(x, 5, 2), 10, 6);
        x.peg(0, 1);
        x.rain(1);
        Check.dues("hits", spouts(x, 5, 2), 15, 6);
        x.peg(0, 0);
        x.peg(1, 1);
        Check.due("rain to the ground", x.rain(1), 0);
        Check.dues("hits", spouts(x, 5, 2), 15, 6);
        x.peg(1, 0);
        x.rain(1);
        Check.dues("hits", spouts(x, 5, 2), 15, 11);
        Check.dues("water", waters(x), 6, 35, 35, 0, 0, 8);
        Check.due("rain(0)", x.rain(0), 0);
        Check.due("loud(1)", x.loud(1), 0);
        Check.due("rain(10)", x.rain(10), Check.BAD);
        Check.due("rain(-1)", x.rain(-1), Check.BAD);
        Check.due("water(0)", x.water(0), 7);
        Check.due("water(6)", x.water(6), Check.BAD);
        Check.due("water(-1)", x.water(-1), Check.BAD);
    }

    private static RainOrgan oneCup(String cup) {
        return Check.told("roof 1 0;peg spout 0 spout 0;spout 6 " + cup + ";");
    }

    private static void slate() {
        RainOrgan x = oneCup("slate");
        Check.due("rain(9)", x.rain(9), 64);
        Check.due("loud(0)", x.loud(0), 1);
        Check.dues("water", waters(x), 1, 9, 9, 0, 0, 1);
        Check.due("rain(0)", x.rain(0), 0);
        Check.due("loud(0)", x.loud(0), 0);
        Check.due("loud(1)", x.loud(1), Check.BAD);
        Check.due("loud(-1)", x.loud(-1), Check.BAD);
        // two spouts of one tone
        x = Check.told("roof 2 0;peg spout 0 spout 1;spout 2 slate;spout 2 slate;spout 7 slate;");
        Check.due("rain(1)", x.rain(1), 4);
        Check.due("sounds", x.water(5), 2);
        Check.due("loud(2)", x.loud(2), 0);
    }

    private static void tip() {
        RainOrgan x = oneCup("tip 4");
        Check.due("rain(3)", x.rain(3), 0);
        Check.due("held", x.spout(0, 4), 3);
        Check.due("rain(1)", x.rain(1), 64);
        Check.due("held", x.spout(0, 4), 0);
        Check.due("loud", x.loud(0), 1);
        Check.due("rain(9)", x.rain(9), 64);
        Check.due("held", x.spout(0, 4), 1);
        Check.due("loud", x.loud(0), 2);
        Check.dues("water", waters(x), 3, 13, 12, 1, 0, 3);
    }

    private static void leak() {
        RainOrgan x = oneCup("leak 4");
        Check.due("rain(3)", x.rain(3), 0);
        Check.due("held", x.spout(0, 4), 2);
        Check.due("rain(1)", x.rain(1), 0);
        Check.due("held", x.spout(0, 4), 2);
        Check.due("rain(2)", x.rain(2), 64);
        Check.due("held", x.spout(0, 4), 0);
        Check.dues("water", waters(x), 3, 6, 6, 0, 0, 1);
        Check.due("rain(9)", x.rain(9), 64);
        Check.due("loud", x.loud(0), 1);
        Check.due("held", x.spout(0, 4), 0);
        Check.due("rain(1)", x.rain(1), 0);
        Check.due("held", x.spout(0, 4), 0);
        Check.due("rain(0)", x.rain(0), 0);
        Check.dues("water", waters(x), 6, 16, 16, 0, 0, 2);
    }

    private static void each() {
        RainOrgan x = oneCup("each 4");
        Check.due("rain(3)", x.rain(3), 0);
        Check.due("held", x.spout(0, 4), 0);
        Check.due("rain(2)", x.rain(2), 64);
        Check.due("loud", x.loud(0), 1);
        Check.due("rain(7)", x.rain(7), 64);
        Check.due("loud", x.loud(0), 2);
        Check.due("rain(3)", x.rain(3), 0);
        Check.due("rain(1)", x.rain(1), 64);
        Check.dues("water", waters(x), 5, 16, 16, 0, 0, 4);
    }

    private static void join() {
        // spout 1 tips into spout 0, which comes ahead of it, and spout 2 into spout 1
        RainOrgan x = Check.told("roof 5 0;peg spout 2 spout 2;spout 0 slate;spout 1 join 3 0;spout 2 join 2 1;");
        Check.due("rain(1)", x.rain(1), 4);
        Check.due("loud(2)", x.loud(2), 2);
        Check.dues("held", spouts(x, 4, 3), 0, 0, 1);
        Check.dues("on the way", spouts(x, 7, 3), 0, 4, 0);
        Check.dues("hits", spouts(x, 5, 3), 0, 0, 5);
        Check.dues("water", waters(x), 1, 5, 0, 1, 4, 2);
        Check.due("rain(0)", x.rain(0), 2);
        Check.dues("held", spouts(x, 4, 3), 0, 1, 1);
        Check.dues("on the way", spouts(x, 7, 3), 3, 0, 0);
        Check.dues("hits", spouts(x, 5, 3), 0, 4, 5);
        Check.dues("water", waters(x), 2, 5, 0, 2, 3, 3);
        Check.due("rain(0)", x.rain(0), 1);
        Check.dues("hits", spouts(x, 5, 3), 3, 4, 5);
        Check.dues("water", waters(x), 3, 5, 3, 2, 0, 4);
        Check.due("rain(0)", x.rain(0), 0);
        Check.dues("water", waters(x), 4, 5, 3, 2, 0, 4);
    }

    private static void joinBothWays() {
        RainOrgan x = Check.told("roof 2 0;peg spout 0 spout 0;spout 0 join 2 1;spout 1 join 1 0;");
        Check.due("rain(1)", x.rain(1), 1);
        Check.due("rain(0)", x.rain(0), 2);
        Check.due("loud(1)", x.loud(1), 2);
        Check.dues("on the way", spouts(x, 7, 2), 2, 0);
        Check.due("rain(0)", x.rain(0), 1);
        Check.due("rain(1)", x.rain(1), 3);
        Check.dues("on the way", spouts(x, 7, 2), 2, 2);
        Check.dues("water", waters(x), 4, 4, 0, 0, 4, 7);
    }

    private static void frozen() {
        RainOrgan x = oneCup("frozen");
        Check.due("rain(9)", x.rain(9), 0);
        Check.due("hits", x.spout(0, 5), 9);
        Check.due("loud", x.loud(0), 0);
        Check.dues("water", waters(x), 1, 9, 9, 0, 0, 0);
    }

    private static void wear() {
        RainOrgan x = Check.told("roof 4 0;peg spout 0 spout 1;spout 0 slate;spout 1 tip 2;wear 4;");
        Check.due("rain(1)", x.rain(1), 3);
        Check.dues("broken", spouts(x, 6, 2), 0, 0);
        Check.due("rain(1): hits become 4", x.rain(1), 3);
        Check.dues("broken", spouts(x, 6, 2), 1, 1);
        Check.due("count(1)", x.count(1), 2);
        Check.due("rain(1)", x.rain(1), 0);
        Check.dues("hits", spouts(x, 5, 2), 6, 6);
        Check.dues("water", waters(x), 3, 12, 12, 0, 0, 4);
        Check.due("loud(1)", x.loud(1), 0);
        // a broken join tips on, a broken each counts on, silently
        x = Check.told("roof 4 0;peg spout 0 spout 0;spout 0 join 2 1;spout 1 slate;wear 3;");
        Check.due("rain(1)", x.rain(1), 1);
        Check.due("broken", x.spout(0, 6), 1);
        Check.due("rain(1)", x.rain(1), 2);
        Check.due("broken", x.spout(1, 6), 1);
        Check.due("on the way", x.spout(1, 7), 4);
        Check.due("rain(0)", x.rain(0), 0);
        Check.due("sounds", x.water(5), 3);
        Check.due("dry()", x.dry(), 3);
        Check.due("count(1)", x.count(1), 0);
        Check.due("rain(1)", x.rain(1), 1);
        // frozen cups wear, too; without WEAR none does
        x = Check.told("roof 9 0;peg spout 0 spout 0;spout 0 frozen;wear 9;");
        x.rain(1);
        Check.due("frozen and broken", x.spout(0, 6), 1);
        x = Check.told("roof 9 0;peg spout 0 spout 0;spout 0 slate;wear 0;");
        x.rain(9);
        Check.due("no wear", x.spout(0, 6), 0);
        Check.due("count(1)", x.count(1), 0);
        Check.due("rain(1)", x.rain(1), 1);
    }

    /** Drops that two cups tip into one another hit them again and again: more often than an int can tell. */
    private static void wearByDropsThatGoRound() {
        RainOrgan x = Check.told("roof 9 0;".repeat(4) + "peg spout 0 spout 0;spout 0 join 1 1;spout 1 join 1 0;wear 999;");
        x.sheet(0, 0, 12);
        for (int i = 0; i < 12; i++) {
            x.lay(0, i, 9);
        }
        x.read(0, 0, 0, 4);
        Check.dues("hits", spouts(x, 5, 2), 6 * 324, 4 * 324);
        Check.dues("broken", spouts(x, 6, 2), 1, 1);
        // each SPOUT sounds in three SECONDS, 1, 1 and 2 times 324, the last being that behind which it is BROKEN
        Check.dues("water", waters(x), 4, 4 * 324, 0, 0, 4 * 324, 8 * 324);
        // SPOUT 0 gets 1, 1, 2, 2, 3, 3 .. times 324 drops: 1, 2, 4, 6, 9, 12 .. times 324 in all
        readTimes(x, 420);
        Check.due("hits, an int still", x.spout(0, 5), 324 * 2522 * 2523);
        readTimes(x, 15);
        Check.dues("water", waters(x), 5224, 5224 * 324, 0, 0, 5224 * 324, 8 * 324);
        Check.due("count(1)", x.count(1), 2);
        Check.dues("broken", spouts(x, 6, 2), 1, 1);
        Check.due("rain(9)", x.rain(9), 0);
        Check.dues("loud", new int[] {x.loud(0), x.loud(1)}, 0, 0);
        x.keep(0);
        Check.due("dry()", x.dry(), 5225);
        Check.due("broken when dry", x.count(1), 0);
        Check.due("back(0)", x.back(0), 5225);
        Check.due("broken as kept", x.count(1), 2);
        Check.due("rain(0)", x.rain(0), 0);
    }

    private static void readTimes(RainOrgan x, int times) {
        for (int i = 0; i < times; i++) {
            x.read(0, 0, 0, 12);
        }
    }

    private static void cups() {
        RainOrgan x = Check.told("roof 3 0;peg spout 0 spout 0;spout 0 join 4 1;spout 1 each 9;spout 2 frozen;");
        x.rain(3);
        Check.dues("water", waters(x), 1, 9, 0, 1, 8, 2);
        Check.due("cup(0, 1)", x.cup(0, 1), Check.BAD);
        Check.due("cup(0, 4)", x.cup(0, 4), Check.BAD);
        Check.due("cup(0, 6)", x.cup(0, 6), Check.BAD);
        Check.due("cup(0, -1)", x.cup(0, -1), Check.BAD);
        Check.due("cup(3, 0)", x.cup(3, 0), Check.BAD);
        Check.due("cup(-1, 0)", x.cup(-1, 0), Check.BAD);
        Check.due("held", x.spout(0, 4), 1);
        Check.due("cup(0, 5)", x.cup(0, 5), 4);
        Check.dues("spout", new int[] {x.spout(0, 0), x.spout(0, 1), x.spout(0, 2), x.spout(0, 3), x.spout(0, 4),
            x.spout(0, 5), x.spout(0, 6), x.spout(0, 7)}, 0, 5, 0, -4, 0, 9, 0, 0);
        Check.dues("water", waters(x), 1, 9, 1, 0, 8, 2);
        Check.due("loud(0) stays", x.loud(0), 2);
        Check.due("on the way stays", x.spout(1, 7), 8);
        Check.due("rain(1)", x.rain(1), 0);
        Check.dues("water", waters(x), 2, 12, 12, 0, 0, 2);
        Check.due("cup(2, 0)", x.cup(2, 0), 5);
        Check.due("cup(2, 0) again", x.cup(2, 0), 0);
        Check.due("cup(2, 5)", x.cup(2, 5), 0);
        Check.due("cup(0, 0)", x.cup(0, 0), 5);
        Check.due("rain(1)", x.rain(1), 1);
        Check.due("cup(1, 5)", x.cup(1, 5), 3);
        // its count is 0: an image brings the count back, cup() alone does not
        x = Check.told("roof 1 0;peg spout 0 spout 0;spout 0 each 3;");
        x.rain(2);
        x.keep(0);
        x.cup(0, 5);
        x.back(0);
        Check.due("kind is back", x.spout(0, 1), 3);
        Check.due("n is back", x.spout(0, 2), 3);
        Check.due("rain(1)", x.rain(1), 1);
    }

    private static void dry() {
        RainOrgan x = Check.told("roof 3 0;peg spout 0 spout 1;spout 0 join 2 3;spout 1 each 4;spout 2 leak 9;spout 3 slate;"
                + "wear 5;");
        Check.due("dry() at first", x.dry(), 0);
        x.peg(0, 1);
        x.block(0, true);
        x.cup(2, 5);
        x.rain(1);
        x.block(0, false);
        x.peg(0, 2);
        x.rain(2);
        Check.due("held", x.water(3), 1);
        Check.due("on the way", x.water(4), 2);
        Check.due("dry()", x.dry(), 2);
        Check.dues("water", waters(x), 0, 0, 0, 0, 0, 0);
        for (int s = 0; s < 4; s++) {
            Check.dues("spout " + s, new int[] {x.spout(s, 4), x.spout(s, 5), x.spout(s, 6), x.spout(s, 7), x.loud(s)},
                    0, 0, 0, 0, 0);
        }
        Check.due("kinds stay", x.spout(2, 1), 5);
        x.rain(1);
        Check.dues("SECOND is 0, the count was 0", spouts(x, 5, 2), 2, 1);
        Check.due("loud(1)", x.loud(1), 0);
        x.rain(1);
        Check.due("loud(1): 3 came", x.loud(1), 0);
        x.rain(0);
        Check.due("loud(3)", x.loud(3), 0);
        Check.due("dry()", x.dry(), 3);
    }
}
