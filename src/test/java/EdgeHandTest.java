/** Boundary cases of the parts and of a SECOND, by hand (Terms, promises 1 and 6 to 16). */
public final class EdgeHandTest {
    public static void main(String[] args) {
        newObject();
        rule();
        gutter();
        spout();
        peg();
        block();
        cup();
        settings();
        rain();
        tones();
        dry();
        water();
        loud();
        gutters();
        slate();
        tip();
        leak();
        each();
        join();
        frozen();
        wear();
        waterAddsUp();
        mostRain();
        Check.finish("EdgeHandTest");
    }

    private static int[] waters(RainOrgan x) {
        return new int[] {x.water(0), x.water(1), x.water(2), x.water(3), x.water(4), x.water(5)};
    }

    private static int[] all(RainOrgan x, int what, int many) {
        int[] row = new int[many];
        for (int s = 0; s < many; s++) {
            row[s] = x.spout(s, what);
        }
        return row;
    }

    /** One CUP of TONE 7 under all the rain, one drop for each rain. */
    private static RainOrgan oneCup(String cup) {
        return Check.told("roof 1 0;peg spout 0 spout 0;spout 7 " + cup + ";");
    }

    private static void newObject() {
        Check.says("Nothing there; SHEETS have nothing.");
        RainOrgan x = new RainOrgan();
        for (int what = 0; what < 7; what++) {
            Check.due("rule(" + what + ")", x.rule(what), 0);
        }
        Check.dues("count", new int[] {x.count(0), x.count(1), x.count(2), x.count(3), x.count(4)}, 0, 0, 0, 0, Check.NONE);
        for (int k = 0; k < 4; k++) {
            Check.due("lay(" + k + ", 0, 0)", x.lay(k, 0, 0), -11);
            Check.due("read of SHEET " + k, x.read(k, 0, 0, 1), 0);
            Check.due("torn()", x.torn(), 1);
        }
        x = new RainOrgan();
        Check.due("torn()", x.torn(), 0);
        Check.due("fault()", x.fault(), 0);
        Check.dues("water", waters(x), 0, 0, 0, 0, 0, 0);
        Check.due("back(0)", x.back(0), Check.STATE);
        Check.due("back(1)", x.back(1), Check.STATE);
        Check.due("dry()", x.dry(), 0);
        Check.due("rain(9) without ROOFS", x.rain(9), 0);
        Check.dues("water", waters(x), 1, 0, 0, 0, 0, 0);
    }

    private static void rule() {
        Check.says("How many: 0 ROOFS, 1 GUTTERS, 2 SPOUTS, 3 SHOWERS, 4 SECONDS of THE TUNE, 5 SLEEPERS; 6 WEAR. BAD.");
        RainOrgan x = Check.told("roof1 4;".repeat(4) + "peg ground ground;".repeat(5) + "spout0slate;".repeat(8)
                + "rain1;".repeat(3) + "tune1 1 1 1 1 1 1 1 1 1 1 1;" + "sleep0 0 1;".repeat(4) + "wear999;");
        Check.dues("the most", new int[] {x.rule(0), x.rule(1), x.rule(2), x.rule(3), x.rule(4), x.rule(5), x.rule(6)},
                4, 5, 8, 3, 12, 4, 999);
        Check.dues("no such", new int[] {x.rule(-1), x.rule(7), x.rule(Integer.MIN_VALUE), x.rule(Integer.MAX_VALUE)},
                Check.BAD, Check.BAD, Check.BAD, Check.BAD);
    }

    private static void gutter() {
        Check.says("(GUTTER g: g; SPOUT s: 10 and s; the ground: 20)");
        RainOrgan x = Check.told("peg gutter 1 spout 0;peg spout 7 gutter 4;peg ground ground;"
                + "peg ground spout 6;".repeat(2)
                + "spout 0 slate;".repeat(8));
        Check.dues("GUTTER 0", new int[] {x.gutter(0, 0), x.gutter(0, 1), x.gutter(0, 2), x.gutter(0, 3)}, 1, 10, 2, 0);
        Check.dues("GUTTER 1", new int[] {x.gutter(1, 0), x.gutter(1, 1), x.gutter(1, 2), x.gutter(1, 3)}, 17, 4, 2, 0);
        Check.dues("GUTTER 2", new int[] {x.gutter(2, 0), x.gutter(2, 1), x.gutter(2, 2), x.gutter(2, 3)}, 20, 20, 2, 0);
        Check.dues("GUTTER 4", new int[] {x.gutter(4, 0), x.gutter(4, 1), x.gutter(4, 2), x.gutter(4, 3)}, 20, 16, 2, 0);
        x.peg(4, 0);
        x.block(4, true);
        Check.dues("GUTTER 4", new int[] {x.gutter(4, 0), x.gutter(4, 1), x.gutter(4, 2), x.gutter(4, 3)}, 20, 16, 0, 1);
        Check.says("2 its PEG, 3 whether it is BLOCKED. BAD.");
        Check.dues("no such", new int[] {x.gutter(-1, 0), x.gutter(5, 0), x.gutter(0, -1), x.gutter(0, 4), x.gutter(5, 4)},
                Check.BAD, Check.BAD, Check.BAD, Check.BAD, Check.BAD);
        x = Check.told("peg ground ground;");
        Check.due("one GUTTER: gutter(1, 0)", x.gutter(1, 0), Check.BAD);
    }

    private static void spout() {
        Check.says("0 TONE, 1 KIND, 2 n (0: has none), 3 the other SPOUT (NONE)");
        RainOrgan x = Check.told("spout 0 slate;spout 1 tip 1;spout 2 leak 30;spout 3 each 30;spout 4 join 30 7;spout 5 frozen;"
                + "spout 6 join 1 0;spout 7 slate;");
        Check.dues("TONE", all(x, 0, 8), 0, 1, 2, 3, 4, 5, 6, 7);
        Check.dues("KIND", all(x, 1, 8), 0, 1, 2, 3, 4, 5, 4, 0);
        Check.dues("n", all(x, 2, 8), 0, 1, 30, 30, 30, 0, 1, 0);
        Check.dues("the other", all(x, 3, 8), -4, -4, -4, -4, 7, -4, 0, -4);
        for (int s = 0; s < 8; s++) {
            x.cup(s, s % 2 == 0 ? 0 : 5);
        }
        Check.dues("KIND of changed CUPS", all(x, 1, 8), 0, 5, 0, 5, 0, 5, 0, 5);
        Check.dues("n of changed CUPS", all(x, 2, 8), 0, 0, 0, 0, 0, 0, 0, 0);
        Check.dues("the other of changed CUPS", all(x, 3, 8), -4, -4, -4, -4, -4, -4, -4, -4);
        Check.says("4 what it HOLDS now, 5 HITS now, 6 whether it is BROKEN, 7 drops ON THE WAY to it. BAD.");
        for (int what = 4; what < 8; what++) {
            Check.dues("at first " + what, all(x, what, 8), 0, 0, 0, 0, 0, 0, 0, 0);
        }
        Check.dues("no such", new int[] {x.spout(-1, 0), x.spout(8, 0), x.spout(0, -1), x.spout(0, 8), x.spout(8, 8)},
                Check.BAD, Check.BAD, Check.BAD, Check.BAD, Check.BAD);
        Check.due("one SPOUT: spout(1, 0)", oneCup("slate").spout(1, 0), Check.BAD);
        x = oneCup("tip 30");
        for (int i = 0; i < 29; i++) {
            x.rain(1);
        }
        Check.dues("all but one drop", new int[] {x.spout(0, 4), x.spout(0, 5), x.loud(0)}, 29, 29, 0);
        x.rain(1);
        Check.dues("the last drop", new int[] {x.spout(0, 4), x.spout(0, 5), x.loud(0)}, 0, 30, 1);
    }

    private static void peg() {
        Check.says("A PEG becomes v (0 to 2): what it was. BAD.");
        RainOrgan x = Check.told("peg ground ground;".repeat(5));
        for (int g = 0; g < 5; g++) {
            Check.dues("PEG " + g, new int[] {x.peg(g, 0), x.peg(g, 1), x.peg(g, 1), x.peg(g, 2), x.peg(g, 0)}, 2, 0, 1, 1, 2);
            Check.dues("refused", new int[] {x.peg(g, -1), x.peg(g, 3), x.gutter(g, 2)}, Check.BAD, Check.BAD, 0);
        }
        Check.dues("no such", new int[] {x.peg(-1, 0), x.peg(5, 0)}, Check.BAD, Check.BAD);
        Check.due("other PEGS are as they were", x.settings(0), 0);
    }

    private static void block() {
        Check.says("A GUTTER is BLOCKED, or not: whether it was (1, 0). BAD.");
        RainOrgan x = Check.told("peg ground ground;".repeat(5));
        for (int g = 0; g < 5; g++) {
            Check.due("not at first", x.block(g, false), 0);
            Check.due("still not", x.block(g, true), 0);
            Check.due("it was", x.block(g, true), 1);
            Check.due("how many", x.count(0), g + 1);
        }
        Check.dues("no such", new int[] {x.block(-1, false), x.block(5, false), x.count(0)}, Check.BAD, Check.BAD, 5);
        for (int g = 0; g < 5; g++) {
            Check.due("it was", x.block(g, false), 1);
            Check.due("it is not", x.gutter(g, 3), 0);
        }
        Check.due("none", x.count(0), 0);
    }

    private static void cup() {
        Check.says("A CUP becomes slate (0) or frozen (5): its KIND before (what it HOLDS runs off then, its count is 0).");
        RainOrgan x = oneCup("tip 9");
        x.rain(8);
        Check.dues("held", waters(x), 1, 8, 0, 8, 0, 0);
        Check.due("cup(0, 0)", x.cup(0, 0), 1);
        Check.dues("run off", waters(x), 1, 8, 8, 0, 0, 0);
        Check.due("HOLDS", x.spout(0, 4), 0);
        Check.due("cup(0, 0) again", x.cup(0, 0), 0);
        Check.due("cup(0, 5)", x.cup(0, 5), 0);
        Check.due("cup(0, 5) again", x.cup(0, 5), 5);
        Check.due("cup(0, 0)", x.cup(0, 0), 5);
        Check.dues("nothing more runs off", waters(x), 1, 8, 8, 0, 0, 0);
        Check.due("a slate sounds", x.rain(1), 128);
        x = oneCup("leak 9");
        x.rain(8);
        Check.due("cup of a leak", x.cup(0, 5), 2);
        Check.dues("run off", waters(x), 1, 8, 8, 0, 0, 0);
        x = oneCup("each 9");
        x.rain(8);
        Check.due("cup of an each", x.cup(0, 0), 3);
        Check.dues("nothing was held", waters(x), 1, 8, 8, 0, 0, 0);
        x = Check.told("roof 1 0;peg spout 0 spout 0;spout 0 join 4 1;spout 1 tip 9;");
        x.rain(6);
        Check.due("cup of a join", x.cup(0, 5), 4);
        Check.dues("what it tipped is ON THE WAY", waters(x), 1, 6, 2, 0, 4, 1);
        Check.due("cup of the other", x.cup(1, 5), 1);
        Check.dues("is ON THE WAY still", waters(x), 1, 6, 2, 0, 4, 1);
        Check.due("loud stays", x.loud(0), 1);
        Check.due("HITS stay", x.spout(0, 5), 6);
        x.rain(0);
        Check.dues("it came", waters(x), 2, 6, 6, 0, 0, 1);

        Check.says("BAD: also another KIND.");
        x = oneCup("tip 9");
        x.rain(3);
        for (int kind : new int[] {1, 2, 3, 4, 6, -1, -5, Integer.MIN_VALUE, Integer.MAX_VALUE}) {
            Check.due("cup(0, " + kind + ")", x.cup(0, kind), Check.BAD);
        }
        Check.dues("no such", new int[] {x.cup(-1, 0), x.cup(1, 0), x.cup(1, 1)}, Check.BAD, Check.BAD, Check.BAD);
        Check.dues("it HOLDS what it held", new int[] {x.spout(0, 1), x.spout(0, 4)}, 1, 3);
    }

    private static void settings() {
        Check.says("SETTINGS: all PEGS as a number, GUTTER 0 by 1, GUTTER 1 by 3 and so on.");
        RainOrgan x = Check.told("peg ground ground;".repeat(5));
        int by = 1;
        for (int g = 0; g < 5; g++) {
            x.settings(0);
            x.peg(g, 1);
            Check.due("PEG " + g + " is 1", x.settings(0), by);
            x.peg(g, 2);
            Check.due("PEG " + g + " is 2", x.settings(by), 2 * by);
            Check.due("PEG " + g, x.gutter(g, 2), 1);
            by *= 3;
        }
        Check.says("PEGS are as a number of SETTINGS: the number they were. BAD.");
        for (int many = 0; many <= 5; many++) {
            x = Check.told("peg ground ground;".repeat(many));
            int all = 1;
            for (int g = 0; g < many; g++) {
                all *= 3;
            }
            Check.due("at first all are 2", x.settings(all - 1), all - 1);
            Check.dues("too large, too small", new int[] {x.settings(all), x.settings(-1)}, Check.BAD, Check.BAD);
            Check.due("as they were", x.settings(0), all - 1);
            Check.due("all 0", x.settings(0), 0);
        }
    }

    private static void rain() {
        Check.says("A SECOND with rain v (0 to 9): its TONES. BAD.");
        RainOrgan x = Check.told("roof 9 0;".repeat(4) + "peg spout 0 spout 1;spout 0 slate;spout 7 slate;");
        Check.due("rain(9)", x.rain(9), 129);
        Check.due("drops", x.water(1), 324);
        Check.due("rain(0)", x.rain(0), 0);
        Check.dues("a SECOND, but no drops", new int[] {x.water(0), x.water(1)}, 2, 324);
        Check.dues("refused", new int[] {x.rain(-1), x.rain(10)}, Check.BAD, Check.BAD);
        Check.dues("no SECOND", new int[] {x.water(0), x.water(1)}, 2, 324);
        x = Check.told("peg spout 0 spout 0;spout 0 slate;");
        Check.due("without ROOFS", x.rain(9), 0);
        x = Check.told("roof 9 0;peg ground ground;");
        Check.due("without SPOUTS", x.rain(9), 0);
        Check.dues("all on the ground", waters(x), 1, 81, 81, 0, 0, 0);
        // all TONES at once: one drop goes from CUP to CUP
        StringBuilder text = new StringBuilder("roof 8 0;peg spout 0 ground;");
        for (int s = 0; s < 7; s++) {
            text.append("spout ").append(s).append(" join 1 ").append(s + 1).append(';');
        }
        x = Check.told(text + "spout 7 slate;");
        for (int i = 0; i < 8; i++) {
            Check.due("SECOND " + i, x.rain(1), (1 << (i + 1)) - 1);
        }
        Check.due("all TONES", x.rain(1), 255);
    }

    private static void tones() {
        Check.says("How often it sounds in that SECOND is its LOUD. TONES of a SECOND: those of SPOUTS that sounded (bits).");
        RainOrgan x = Check.told("roof 6 0;peg spout 0 spout 1;spout 7 tip 1;spout 7 slate;spout 0 slate;");
        Check.dues("two SPOUTS of one TONE", new int[] {x.rain(1), x.loud(0), x.loud(1), x.loud(2), x.water(5)}, 128, 3, 1, 0, 4);
        x.cup(0, 5);
        Check.dues("one of them", new int[] {x.rain(1), x.loud(0), x.loud(1), x.loud(2), x.water(5)}, 128, 0, 1, 0, 5);
        x.cup(1, 5);
        Check.dues("none of them", new int[] {x.rain(1), x.loud(0), x.loud(1), x.loud(2), x.water(5)}, 0, 0, 0, 0, 5);
    }

    private static void dry() {
        Check.says("CUPS are empty, counts 0, HITS none, nothing is BROKEN, nothing ON THE WAY, SECOND 0, and water(), loud() begin anew: the SECOND it was.");
        String text = "roof 5 0;peg spout 0 spout 1;spout 0 join 2 2;spout 1 each 3;spout 2 tip 9;spout 3 leak 9;wear 4;"
                + "rain 1 2;tune 3;";
        RainOrgan x = Check.told(text);
        Check.due("at first", x.dry(), 0);
        x.rain(1);
        Check.due("behind one", x.dry(), 1);
        Check.due("dry already", x.dry(), 0);
        for (int i = 0; i < 5; i++) {
            x.rain(i);
        }
        Check.due("BROKEN", x.count(1), 3);
        Check.due("behind five", x.dry(), 5);
        Check.due("nothing is BROKEN", x.count(1), 0);
        Twins.same("dry()", () -> {
            RainOrgan y = Check.told(text);
            for (int i = 0; i < 7; i++) {
                y.rain(i);
            }
            y.dry();
            return y;
        }, () -> Check.told(text));
        x.peg(0, 1);
        x.block(0, true);
        x.cup(3, 5);
        x.tells(1, 9);
        x.keep(1);
        x.rain(3);
        x.dry();
        Check.dues("all else stays", new int[] {x.gutter(0, 2), x.gutter(0, 3), x.spout(3, 1), x.rule(4), x.count(2)}, 1, 1, 5, 2, 1);
    }

    private static void water() {
        Check.says("By hand so far: 0 SECONDS, 1 drops fallen, 2 run off, 3 held, 4 ON THE WAY, 5 how often anything sounded. BAD.");
        RainOrgan x = Check.told("roof 7 0;peg spout 0 spout 1;spout 0 join 3 1;spout 1 tip 2;rain 9 9;");
        Check.dues("none yet", waters(x), 0, 0, 0, 0, 0, 0);
        x.plays(0, 1);
        x.falls(0, 0);
        x.lasts(0, 0);
        Check.dues("SHOWERS are not by hand", waters(x), 0, 0, 0, 0, 0, 0);
        x.rain(1);
        // 4 LEFT: 3 tipped on, 1 held; 3 RIGHT: 2 run off, 1 held
        Check.dues("one SECOND", waters(x), 1, 7, 2, 2, 3, 2);
        x.rain(0);
        Check.dues("another", waters(x), 2, 7, 6, 1, 0, 4);
        Check.dues("no such", new int[] {x.water(-1), x.water(6), x.water(Integer.MIN_VALUE), x.water(Integer.MAX_VALUE)},
                Check.BAD, Check.BAD, Check.BAD, Check.BAD);
    }

    private static void loud() {
        Check.says("LOUD of a SPOUT in the latest SECOND by hand (0: there was none). BAD.");
        RainOrgan x = Check.told("roof 9 0;peg spout 0 spout 0;spout 0 tip 1;spout 1 slate;rain 3;");
        Check.dues("none yet", new int[] {x.loud(0), x.loud(1)}, 0, 0);
        x.plays(0, 0);
        Check.due("a SHOWER is not by hand", x.loud(0), 0);
        x.rain(9);
        Check.dues("latest", new int[] {x.loud(0), x.loud(1)}, 81, 0);
        x.rain(10);
        Check.due("refused", x.loud(0), 81);
        x.read(0, 0, 0, 0);
        Check.due("no SECOND was read", x.loud(0), 81);
        x.read(0, 0, 0, 1);
        Check.due("the machine refused", x.loud(0), 81);
        x.rain(0);
        Check.due("latest", x.loud(0), 0);
        x.rain(1);
        x.dry();
        Check.due("there was none since", x.loud(0), 0);
        Check.dues("no such", new int[] {x.loud(-1), x.loud(2), x.loud(Integer.MIN_VALUE), x.loud(Integer.MAX_VALUE)},
                Check.BAD, Check.BAD, Check.BAD, Check.BAD);
    }

    private static void gutters() {
        Check.says("each ROOF gets AREA times v drops; they come to its GUTTER.");
        RainOrgan x = Check.told("roof 1 0;roof 9 1;roof 2 1;roof 3 1;peg spout 0 spout 0;peg spout 1 spout 1;"
                + "spout 0 slate;spout 1 slate;");
        x.rain(9);
        Check.dues("HITS", all(x, 5, 2), 9, 126);

        Check.says("GUTTER by GUTTER (by numbers) all that came to it goes on: BLOCKED: it runs off;");
        x = Check.told("roof 1 0;roof 1 2;roof 1 4;peg gutter 1 ground;peg gutter 2 ground;peg gutter 3 ground;peg gutter 4 ground;"
                + "peg spout 0 ground;spout 0 slate;");
        x.settings(0);
        Check.due("from the first to the last in one SECOND", x.rain(1), 1);
        Check.due("HITS", x.spout(0, 5), 3);
        x.block(2, true);
        x.rain(1);
        Check.due("what came to GUTTER 2 runs off", x.spout(0, 5), 4);
        Check.due("run off", x.water(2), 6);
        x.block(4, true);
        Check.due("the last one, too", x.rain(1), 0);
        Check.dues("water", waters(x), 3, 9, 9, 0, 0, 2);
        x.block(2, false);
        x.block(4, false);
        x.settings(242);
        x.block(4, true);
        Check.due("BLOCKED, both ways", x.rain(1), 0);

        Check.says("PEG 0, 1: all to that way; PEG 2: half to each; an odd one goes LEFT, if the SECOND's number is even, else RIGHT.");
        for (int drops = 0; drops <= 9; drops++) {
            x = Check.told("roof 1 0;peg spout 0 spout 1;spout 0 slate;spout 1 slate;");
            int odd = drops % 2;
            x.rain(drops);
            Check.dues("SECOND 0, drops " + drops, all(x, 5, 2), drops / 2 + odd, drops / 2);
            x.rain(drops);
            Check.dues("SECOND 1, drops " + drops, all(x, 5, 2), drops, drops);
            x.rain(drops);
            Check.dues("SECOND 2, drops " + drops, all(x, 5, 2), drops + drops / 2 + odd, drops + drops / 2);
            x.dry();
            x.peg(0, 0);
            x.rain(drops);
            Check.dues("LEFT, drops " + drops, all(x, 5, 2), drops, 0);
            x.peg(0, 1);
            x.rain(drops);
            Check.dues("RIGHT, drops " + drops, all(x, 5, 2), drops, drops);
        }

        Check.says("On the ground drops run off.");
        x = Check.told("roof 3 0;peg ground spout 0;spout 0 tip 30;");
        x.rain(1);
        Check.dues("the odd one, too", waters(x), 1, 3, 2, 1, 0, 0);
    }

    private static void slate() {
        Check.says("slate: it sounds, if w is above 0; all run off.");
        RainOrgan x = oneCup("slate");
        Check.dues("rain 0", new int[] {x.rain(0), x.loud(0), x.water(5)}, 0, 0, 0);
        Check.dues("rain 1", new int[] {x.rain(1), x.loud(0), x.water(5)}, 128, 1, 1);
        Check.dues("rain 9", new int[] {x.rain(9), x.loud(0), x.water(5)}, 128, 1, 2);
        Check.dues("water", waters(x), 3, 10, 10, 0, 0, 2);
    }

    private static void tip() {
        Check.says("tip: it HOLDS w more; as long as that is n or more, it sounds, n run off.");
        for (int n = 1; n <= 30; n++) {
            RainOrgan x = Check.told("roof 9 0;roof 1 0;peg spout 0 spout 0;spout 7 tip " + n + ";");
            int drops = 0;
            for (int v : new int[] {0, 1, 9, 0, 4}) {
                int held = x.spout(0, 4);
                drops += 10 * v;
                int sounds = (held + 10 * v) / n;
                Check.due("TONES of n " + n, x.rain(v), sounds > 0 ? 128 : 0);
                Check.dues("n " + n, new int[] {x.loud(0), x.spout(0, 4), x.water(2)}, sounds, drops % n, drops - drops % n);
            }
        }
        RainOrgan x = oneCup("tip 4");
        Check.dues("one less", new int[] {x.rain(3), x.loud(0), x.spout(0, 4)}, 0, 0, 3);
        Check.dues("just so many", new int[] {x.rain(1), x.loud(0), x.spout(0, 4)}, 128, 1, 0);
        Check.dues("one more", new int[] {x.rain(5), x.loud(0), x.spout(0, 4)}, 128, 1, 1);
        Check.dues("nothing more", new int[] {x.rain(0), x.loud(0), x.spout(0, 4)}, 0, 0, 1);
        Check.dues("just twice", new int[] {x.rain(7), x.loud(0), x.spout(0, 4)}, 128, 2, 0);
    }

    private static void leak() {
        Check.says("leak: it HOLDS w more; is that n or more, it sounds, all run off; else, if it HOLDS any, one runs off.");
        RainOrgan x = oneCup("leak 4");
        Check.dues("none", new int[] {x.rain(0), x.spout(0, 4), x.water(2)}, 0, 0, 0);
        Check.dues("just one: it runs off", new int[] {x.rain(1), x.spout(0, 4), x.water(2)}, 0, 0, 1);
        Check.dues("one less than n", new int[] {x.rain(3), x.spout(0, 4), x.water(2)}, 0, 2, 2);
        Check.dues("none comes: one runs off", new int[] {x.rain(0), x.spout(0, 4), x.water(2)}, 0, 1, 3);
        Check.dues("the last runs off", new int[] {x.rain(0), x.spout(0, 4), x.water(2)}, 0, 0, 4);
        Check.dues("none is held", new int[] {x.rain(0), x.spout(0, 4), x.water(2)}, 0, 0, 4);
        Check.dues("just n", new int[] {x.rain(4), x.spout(0, 4), x.water(2)}, 128, 0, 8);
        Check.dues("more than n: once, all", new int[] {x.rain(9), x.loud(0), x.spout(0, 4), x.water(2)}, 128, 1, 0, 17);
        x.rain(3);
        Check.dues("with what it held just n", new int[] {x.rain(2), x.loud(0), x.spout(0, 4), x.water(2)}, 128, 1, 0, 22);
        x.rain(3);
        Check.dues("with what it held one less", new int[] {x.rain(1), x.loud(0), x.spout(0, 4), x.water(2)}, 0, 0, 2, 24);
        x = oneCup("leak 1");
        Check.dues("n 1, none", new int[] {x.rain(0), x.loud(0)}, 0, 0);
        Check.dues("n 1, one", new int[] {x.rain(1), x.loud(0), x.spout(0, 4), x.water(2)}, 128, 1, 0, 1);
    }

    private static void each() {
        Check.says("each: it HOLDS nothing, all run off; it counts: for each n-th drop it sounds.");
        for (int n = 1; n <= 30; n++) {
            RainOrgan x = Check.told("roof 9 0;roof 1 0;peg spout 0 spout 0;spout 7 each " + n + ";");
            int drops = 0;
            for (int v : new int[] {1, 0, 9, 3, 2}) {
                int sounds = (drops + 10 * v) / n - drops / n;
                drops += 10 * v;
                Check.due("TONES of n " + n, x.rain(v), sounds > 0 ? 128 : 0);
                Check.dues("n " + n, new int[] {x.loud(0), x.spout(0, 4), x.water(2)}, sounds, 0, drops);
            }
        }
        RainOrgan x = oneCup("each 4");
        Check.dues("one less", new int[] {x.rain(3), x.loud(0)}, 0, 0);
        Check.dues("none", new int[] {x.rain(0), x.loud(0)}, 0, 0);
        Check.dues("the 4th", new int[] {x.rain(1), x.loud(0)}, 128, 1);
        Check.dues("the 8th", new int[] {x.rain(4), x.loud(0)}, 128, 1);
        Check.dues("the 12th and the 16th", new int[] {x.rain(9), x.loud(0)}, 128, 2);
        x.dry();
        Check.dues("dry: its count is 0", new int[] {x.rain(3), x.loud(0)}, 0, 0);
    }

    private static void join() {
        Check.says("join: as tip, but the n drops come to that other CUP in the next SECOND (until then they are ON THE WAY).");
        RainOrgan x = Check.told("roof 1 0;peg spout 1 spout 1;spout 0 slate;spout 1 join 4 2;spout 2 join 4 0;");
        Check.dues("one less", new int[] {x.rain(3), x.spout(1, 4), x.spout(2, 7)}, 0, 3, 0);
        Check.dues("just n", new int[] {x.rain(1), x.spout(1, 4), x.spout(2, 7), x.spout(2, 5)}, 2, 0, 4, 0);
        Check.dues("to a CUP of a greater number", new int[] {x.rain(0), x.spout(2, 7), x.spout(2, 5), x.spout(0, 7), x.spout(0, 5)},
                4, 0, 4, 4, 0);
        Check.dues("to a CUP of a less number", new int[] {x.rain(0), x.spout(0, 7), x.spout(0, 5)}, 1, 0, 4);
        Check.dues("water", waters(x), 4, 4, 4, 0, 0, 3);
        Check.dues("twice n and one", new int[] {x.rain(9), x.loud(1), x.spout(1, 4), x.spout(2, 7)}, 2, 2, 1, 8);

        Check.says("(those that others tipped into it in the SECOND before among them)");
        x = Check.told("roof 2 0;roof 1 1;peg spout 0 spout 1;peg spout 2 spout 2;spout 0 join 1 2;spout 1 join 1 2;spout 7 tip 30;");
        x.rain(1);
        Check.dues("of two others", new int[] {x.spout(2, 7), x.spout(2, 5), x.water(4)}, 2, 1, 2);
        x.rain(3);
        Check.dues("with rain of its own", new int[] {x.spout(2, 7), x.spout(2, 5), x.spout(2, 4)}, 6, 6, 6);
        x.rain(0);
        Check.dues("and none", new int[] {x.spout(2, 7), x.spout(2, 5), x.spout(2, 4)}, 0, 12, 12);

        Check.says("is BROKEN, 7 drops ON THE WAY to it.");
        x = Check.told("roof 1 0;peg spout 0 spout 0;spout 0 join 1 1;spout 1 frozen;");
        x.rain(5);
        Check.dues("to a frozen CUP", new int[] {x.spout(0, 7), x.spout(1, 7), x.water(4)}, 0, 5, 5);
        x.rain(0);
        Check.dues("run off", new int[] {x.spout(1, 7), x.spout(1, 5), x.water(2)}, 0, 5, 5);
    }

    private static void frozen() {
        Check.says("frozen: all run off.");
        RainOrgan x = oneCup("frozen");
        Check.dues("rain 9", new int[] {x.rain(9), x.loud(0), x.spout(0, 4), x.spout(0, 5), x.water(2)}, 0, 0, 0, 9, 9);
        Check.dues("rain 0", new int[] {x.rain(0), x.loud(0), x.spout(0, 4), x.spout(0, 5), x.water(2)}, 0, 0, 0, 9, 9);
    }

    private static void wear() {
        Check.says("HITS of a SPOUT: drops that came to its CUP, summed.");
        for (String cup : new String[] {"slate", "tip 30", "leak 30", "each 30", "frozen"}) {
            RainOrgan x = oneCup(cup);
            x.rain(0);
            Check.due("HITS of no drops on " + cup, x.spout(0, 5), 0);
            x.rain(9);
            x.rain(2);
            Check.due("HITS on " + cup, x.spout(0, 5), 11);
        }

        Check.says("With WEAR: once HITS were WEAR or more behind a SECOND it is BROKEN: it never sounds from then on (all else as before).");
        for (int wear : new int[] {1, 2, 9, 10, 999}) {
            RainOrgan x = Check.told("roof 1 0;peg spout 0 spout 0;spout 7 each 1;wear " + wear + ";");
            int hits = 0;
            while (hits + 9 < wear) {
                Check.due("it sounds", x.rain(9), 128);
                hits += 9;
            }
            if (hits < wear - 1) {
                Check.due("one less than WEAR", x.rain(wear - 1 - hits), 128);
            }
            Check.dues("HITS are one less", new int[] {x.spout(0, 5), x.spout(0, 6), x.count(1)}, wear - 1, 0, 0);
            Check.due("without drops", x.rain(0), 0);
            Check.due("not BROKEN yet", x.spout(0, 6), 0);
            Check.due("the SECOND that breaks it sounds", x.rain(1), 128);
            Check.dues("HITS are WEAR", new int[] {x.spout(0, 5), x.spout(0, 6), x.count(1), x.loud(0)}, wear, 1, 1, 1);
            int sounded = x.water(5);
            Check.dues("it never sounds from then on", new int[] {x.rain(9), x.loud(0), x.rain(1), x.loud(0)}, 0, 0, 0, 0);
            Check.due("nothing sounded", x.water(5), sounded);
            Check.due("all else as before: HITS", x.spout(0, 5), wear + 10);
            Check.due("all else as before: run off", x.water(2), wear + 10);
        }
        RainOrgan x = Check.told("roof 1 0;peg spout 0 spout 0;spout 0 join 2 1;spout 1 leak 9;wear 1;");
        x.rain(1);
        Check.dues("a BROKEN join tips on", new int[] {x.rain(4), x.spout(0, 4), x.spout(1, 7)}, 0, 1, 4);
        x = Check.told("roof 1 0;peg spout 0 spout 0;spout 0 slate;wear 0;");
        for (int i = 0; i < 120; i++) {
            x.rain(9);
        }
        Check.dues("WEAR 0: none", new int[] {x.spout(0, 5), x.spout(0, 6), x.count(1), x.rain(1)}, 1080, 0, 0, 1);
    }

    private static void waterAddsUp() {
        Check.says("what sounds, what is held, what runs off, water that adds up;");
        RainOrgan x = Twins.busy();
        for (int i = 0; i < 60; i++) {
            x.rain(i * 7 % 10);
            if (i % 10 == 0) {
                x.block(2, i % 20 == 0);
            }
            if (i % 17 == 0) {
                x.cup(i / 17, 5);
            }
            Check.due("fallen", x.water(1), x.water(2) + x.water(3) + x.water(4));
        }
    }

    /** As much rain as 512 calls can bring: 440 sheets of twelve SECONDS of most rain. */
    private static RainOrgan drenched(String spouts) {
        RainOrgan x = Check.told("roof9 0;".repeat(4) + "peg spout0spout0;" + spouts);
        x.sheet(0, 0, 12);
        for (int i = 0; i < 12; i++) {
            x.lay(0, i, 9);
        }
        for (int i = 0; i < 440; i++) {
            x.read(0, 0, 0, 12);
        }
        return x;
    }

    private static void mostRain() {
        Check.says("An object is used for at most 512 calls after it has been made;");
        RainOrgan x = drenched("spout0join1 1;spout1tip30;");
        int fallen = 440 * 12 * 324;
        int came = fallen - 324;
        Check.dues("water", waters(x), 5280, fallen, came - came % 30, came % 30, 324, fallen + came / 30);
        Check.dues("HITS", all(x, 5, 2), fallen, came);

        // drops that two CUPS pass round are HITS again and again, in the end more than an int can tell
        Check.says("it never sounds from then on (all else as before).");
        x = drenched("spout0join1 1;spout1join1 0;wear999;");
        Check.dues("BROKEN, however many HITS", new int[] {x.spout(0, 6), x.spout(1, 6), x.count(1)}, 1, 1, 2);
        Check.dues("it is silent", new int[] {x.rain(9), x.loud(0), x.loud(1)}, 0, 0, 0);
        // each SPOUT sounded in three SECONDS, 1, 1 and 2 times 324
        Check.dues("water", waters(x), 5281, 5281 * 324, 0, 0, 5281 * 324, 8 * 324);
    }
}
