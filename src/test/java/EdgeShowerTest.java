/** Boundary cases of SHOWERS, of THE TUNE, of SETTINGS and of what it was (Terms, promises 17 to 32). */
public final class EdgeShowerTest {
    /** One GUTTER over two slates of TONES 0 and 1; two drops for each rain. */
    private static final String TWO = "roof 2 0;peg spout 0 spout 1;spout 0 slate;spout 1 slate;";

    /** Five GUTTERS, each over a slate of its own TONE: LEFT it sounds, RIGHT it does not. */
    private static final String FIVE = "roof 2 0;roof 2 1;roof 2 2;roof 2 3;peg spout0ground;peg spout1ground;peg spout2ground;"
            + "peg spout3gutter4;peg spout4ground;spout0slate;spout1slate;spout2slate;spout3slate;spout4slate;";

    public static void main(String[] args) {
        shower();
        plays();
        byItself();
        falls();
        tune();
        tells();
        far();
        best();
        fewest();
        all();
        quiet();
        woken();
        heard();
        blocked();
        frozen();
        lasts();
        draws();
        drawsWrapAround();
        Check.finish("EdgeShowerTest");
    }

    private static int[] falls(RainOrgan x, int w) {
        int[] row = new int[8];
        for (int what = 0; what < 8; what++) {
            row[what] = x.falls(w, what);
        }
        return row;
    }

    private static int[] best(RainOrgan x, int w) {
        return new int[] {x.best(w, 0), x.best(w, 1), x.best(w, 2)};
    }

    private static int[] fewest(RainOrgan x, int w) {
        return new int[] {x.fewest(w, 0), x.fewest(w, 1)};
    }

    private static int[] quiet(RainOrgan x, int w) {
        return new int[] {x.quiet(w, 0), x.quiet(w, 1), x.quiet(w, 2)};
    }

    private static int[] heard(RainOrgan x) {
        return new int[] {x.heard(0), x.heard(1)};
    }

    private static void shower() {
        Check.says("Rain of a SECOND of a SHOWER; how many SECONDS (i = -1). BAD.");
        RainOrgan x = Check.told("rain 0;rain 1 2 3 4 5 6 7 8 9 0 1 2;rain 9 9;");
        Check.dues("SHOWER 0", new int[] {x.shower(0, -2), x.shower(0, -1), x.shower(0, 0), x.shower(0, 1)},
                Check.BAD, 1, 0, Check.BAD);
        Check.dues("SHOWER 1", new int[] {x.shower(1, -1), x.shower(1, 0), x.shower(1, 11), x.shower(1, 12)}, 12, 1, 2, Check.BAD);
        Check.dues("SHOWER 2", new int[] {x.shower(2, -1), x.shower(2, 1), x.shower(2, 2)}, 2, 9, Check.BAD);
        Check.dues("no such", new int[] {x.shower(3, -1), x.shower(-1, -1), x.shower(3, 0)}, Check.BAD, Check.BAD, Check.BAD);
        Check.due("none at all", new RainOrgan().shower(0, -1), Check.BAD);
    }

    private static void plays() {
        Check.says("TONES of SECOND i of a SHOWER. BAD.");
        RainOrgan x = Check.told(TWO + "rain 1;rain 0 1 0 1 0 1 0 1 0 1 0 1;");
        Check.dues("SHOWER 0", new int[] {x.plays(0, -1), x.plays(0, 0), x.plays(0, 1)}, Check.BAD, 3, Check.BAD);
        Check.dues("SHOWER 1", new int[] {x.plays(1, 0), x.plays(1, 1), x.plays(1, 10), x.plays(1, 11), x.plays(1, 12)},
                0, 3, 0, 3, Check.BAD);
        Check.dues("no such", new int[] {x.plays(2, 0), x.plays(-1, 0)}, Check.BAD, Check.BAD);
        x = Check.told("rain 9;");
        Check.due("nothing there", x.plays(0, 0), 0);
    }

    private static void byItself() {
        Check.says("A SHOWER, by itself: CUPS empty, counts 0, HITS none, nothing BROKEN, nothing ON THE WAY, SECOND 0,");
        String text = "roof 3 0;peg spout 0 spout 1;spout 0 join 2 2;spout 1 each 3;spout 2 tip 2;rain 1 1;wear 5;tune 1 6;";
        RainOrgan x = Check.told(text);
        RainOrgan rained = Check.told(text);
        for (int i = 0; i < 5; i++) {
            rained.rain(i + 3);
        }
        Check.due("BROKEN by hand", rained.count(1), 3);
        Check.dues("plays", new int[] {rained.plays(0, 0), rained.plays(0, 1)}, x.plays(0, 0), x.plays(0, 1));
        Check.dues("falls", falls(rained, 0), falls(x, 0));
        Check.dues("plays", new int[] {x.plays(0, 0), x.plays(0, 1)}, 1, 6);
        Check.due("far", rained.far(0), 0);
        Check.dues("lasts", new int[] {rained.lasts(0, 0), rained.lasts(0, 1), rained.lasts(0, 2)},
                x.lasts(0, 0), x.lasts(0, 1), x.lasts(0, 2));
        Check.dues("heard", heard(rained), x.heard(0), x.heard(1));
        Check.dues("asked twice", falls(rained, 0), falls(rained, 0));

        Check.says("PEGS and BLOCKS as they are, its SECONDS one behind another.");
        x = Check.told(TWO + "rain 1 1;");
        x.peg(0, 1);
        Check.dues("RIGHT", new int[] {x.plays(0, 0), x.plays(0, 1)}, 2, 2);
        x.block(0, true);
        Check.dues("BLOCKED", new int[] {x.plays(0, 0), x.plays(0, 1)}, 0, 0);
    }

    private static void falls() {
        Check.says("4 how often anything sounds, 5 the first SECOND with most of it (NONE: none)");
        RainOrgan x = Check.told("roof 1 0;peg spout 0 spout 0;spout 0 tip 2;rain 0 0;rain 4 0 4;rain 1 2 3;wear 9;");
        Check.dues("no rain", falls(x, 0), 0, 0, 0, 0, 0, Check.NONE, 0, 1);
        Check.dues("of two the first", falls(x, 1), 8, 8, 0, 0, 4, 0, 0, 0);
        Check.dues("the last", falls(x, 2), 6, 6, 0, 0, 3, 2, 0, 0);
        x.block(0, true);
        Check.dues("rain, but no sound", falls(x, 1), 8, 8, 0, 0, 0, Check.NONE, 0, 1);
        x = Check.told("rain 9;");
        Check.dues("nothing there", falls(x, 0), 0, 0, 0, 0, 0, Check.NONE, 0, 0);
        x = Check.told("roof 1 0;peg spout 0 spout 0;spout 0 tip 2;rain 0 0 0 0 0 0 0 0 0 0 0 9;rain 2;rain 0;");
        Check.due("the last of twelve", x.falls(0, 5), 11);
        x = Check.told("roof 1 0;peg spout 0 spout 0;spout 0 tip 2;rain 0 8 8;rain 2;rain 0;");
        Check.dues("a longer SHOWER is forgotten", new int[] {x.falls(0, 5), x.falls(1, 5), x.falls(0, 5), x.falls(2, 5)},
                1, 0, 1, Check.NONE);

        Check.says("6 SPOUTS that are BROKEN behind it (bits), 7 SPOUTS that never sound (bits). BAD.");
        String eight = "roof 1 0;peg spout 7 spout 0;" + "spout0slate;".repeat(7) + "spout0tip2;rain 2 2;rain 1;rain 1 1 1;";
        x = Check.told(eight + "wear 2;");
        Check.dues("HITS are WEAR", new int[] {x.falls(0, 6), x.falls(0, 7)}, 129, 126);
        Check.dues("HITS are less", new int[] {x.falls(1, 6), x.falls(1, 7)}, 0, 255);
        Check.dues("one of both", new int[] {x.falls(2, 6), x.falls(2, 7)}, 128, 126);
        x = Check.told(eight);
        Check.dues("without WEAR", new int[] {x.falls(0, 6), x.falls(0, 7)}, 0, 126);
        x = Check.told("roof 9 0;peg spout 0 spout 0;spout 0 frozen;rain 9;wear 1;");
        Check.dues("frozen", new int[] {x.falls(0, 6), x.falls(0, 7)}, 1, 1);
        Check.dues("no such", new int[] {x.falls(0, -1), x.falls(0, 8), x.falls(1, 0), x.falls(-1, 0)},
                Check.BAD, Check.BAD, Check.BAD, Check.BAD);

        Check.says("Of a SHOWER: 0 drops fallen, 1 run off, 2 held, 3 ON THE WAY at the end");
        x = Check.told("roof 5 0;peg spout 0 spout 0;spout 0 join 4 1;spout 1 tip 30;rain 1;rain 1 0;rain 9 9 9 9 9 9 9 9 9 9 9 9;");
        Check.dues("ON THE WAY at the end", falls(x, 0), 5, 0, 1, 4, 1, 0, 0, 2);
        Check.dues("it came", falls(x, 1), 5, 0, 5, 0, 1, 0, 0, 2);
        // 540 drops; 495 ahead of the last SECOND: 123 tipped, 492 came, 480 run off; 540: 135 tipped
        Check.dues("twelve SECONDS", new int[] {x.falls(2, 0), x.falls(2, 1), x.falls(2, 2), x.falls(2, 3), x.falls(2, 4)},
                540, 480, 12, 48, 135 + 16);
    }

    private static void tune() {
        Check.says("TONES of THE TUNE in SECOND i. BAD.");
        RainOrgan x = new RainOrgan();
        Check.dues("none", new int[] {x.tune(-1), x.tune(0)}, Check.BAD, Check.BAD);
        x = Check.told("tune 255;");
        Check.dues("one", new int[] {x.tune(-1), x.tune(0), x.tune(1)}, Check.BAD, 255, Check.BAD);
        x = Check.told("tune 0 1 2 3 4 5 6 7 8 9 10 11;");
        Check.dues("twelve", new int[] {x.tune(0), x.tune(11), x.tune(12), x.tune(Integer.MAX_VALUE), x.tune(Integer.MIN_VALUE)},
                0, 11, Check.BAD, Check.BAD, Check.BAD);
    }

    private static void tells() {
        Check.says("TONES of SECOND i of THE TUNE (0 to as many as there are: one more) become v: how many SECONDS it has.");
        RainOrgan x = new RainOrgan();
        Check.due("i 1 of none", x.tells(1, 0), Check.BAD);
        for (int i = 0; i < 12; i++) {
            Check.due("i too large", x.tells(i + 1, 1), Check.BAD);
            Check.due("one more", x.tells(i, i % 2 == 0 ? 255 : 0), i + 1);
            Check.due("no more", x.tells(i, i % 2 == 0 ? 0 : 255), i + 1);
            Check.dues("they became", new int[] {x.tune(i), x.tune(i + 1), x.rule(4)}, i % 2 == 0 ? 0 : 255, Check.BAD, i + 1);
        }
        Check.says("BAD; FULL: 12.");
        Check.due("the 13th", x.tells(12, 5), Check.FULL);
        Check.due("behind that", x.tells(13, 5), Check.BAD);
        Check.dues("below, above", new int[] {x.tells(-1, 5), x.tells(0, -1), x.tells(0, 256), x.tells(12, 256)},
                Check.BAD, Check.BAD, Check.BAD, Check.BAD);
        Check.due("of twelve the first", x.tells(0, 7), 12);
        Check.due("of twelve the last", x.tells(11, 8), 12);
        Check.dues("THE TUNE", new int[] {x.tune(0), x.tune(1), x.tune(11), x.tune(12), x.rule(4)}, 7, 255, 8, Check.BAD, 12);
        x = Check.told("tune 1;");
        Check.due("FULL is told of 12 alone", x.tells(1, 5), 2);
    }

    private static void far() {
        Check.says("in each SECOND that either has the TONES that just one of both has, summed (a SECOND that there is not has none).");
        RainOrgan x = Check.told(TWO + "rain 1;rain 1 1 1 1 1 1 1 1 1 1 1 1;rain 0;");
        Check.dues("no TUNE", new int[] {x.far(0), x.far(1), x.far(2)}, 2, 24, 0);
        x.tells(0, 3);
        Check.dues("just so", new int[] {x.far(0), x.far(1), x.far(2)}, 0, 22, 2);
        x.tells(1, 252);
        Check.dues("THE TUNE is longer", new int[] {x.far(0), x.far(1), x.far(2)}, 6, 6 + 22, 8);
        x.tells(1, 0);
        Check.dues("THE TUNE is longer, by silence", new int[] {x.far(0), x.far(1), x.far(2)}, 0, 22, 2);
        for (int i = 0; i < 12; i++) {
            x.tells(i, 252);
        }
        Check.dues("the farthest", new int[] {x.far(0), x.far(1), x.far(2)}, 2 + 72, 96, 72);
        for (int i = 0; i < 12; i++) {
            x.tells(i, 3);
        }
        Check.dues("all twelve", new int[] {x.far(0), x.far(1), x.far(2)}, 22, 0, 24);

        // an older text's longer TUNE is forgotten, however many texts ago it was told
        for (int texts = 0; texts < 3; texts++) {
            RainOrgan y = Check.told("tune" + " 255".repeat(12) + ";");
            for (int i = 0; i < texts; i++) {
                Check.tell(y, "wear 1;");
            }
            Check.tell(y, TWO + "rain 1 0 0;tune 3;");
            Check.due("behind a longer TUNE, texts between " + texts, y.far(0), 0);
        }

        Check.says("How FAR a SHOWER plays from THE TUNE. BAD.");
        Check.dues("no such", new int[] {x.far(-1), x.far(3)}, Check.BAD, Check.BAD);
        x = Check.told("rain 1;");
        Check.due("nothing plays nothing", x.far(0), 0);
        Check.due("of one SHOWER the second", x.far(1), Check.BAD);
    }

    private static void best() {
        Check.says("SETTINGS by which a SHOWER plays nearest, of several the least (what 0), how FAR (1), how many are as near (2).");
        RainOrgan x = Check.told("rain 1;tune 255;");
        Check.dues("no GUTTERS: one SETTING", best(x, 0), 0, 8, 1);
        x = Check.told("rain 9;" + "peg ground ground;".repeat(5));
        Check.dues("all are as near", best(x, 0), 0, 0, 243);
        x = Check.told(TWO + "rain 1;tune 3;");
        Check.dues("the last one", best(x, 0), 2, 0, 1);
        x.tells(0, 2);
        Check.dues("the middle one", best(x, 0), 1, 0, 1);
        x.tells(0, 0);
        Check.dues("of two the least", best(x, 0), 0, 1, 2);
        x = Check.told(FIVE + "rain 1;tune 31;");
        // GUTTERS 0 to 2: LEFT or both; GUTTER 3 both; GUTTER 4 LEFT or both
        Check.dues("all of five", best(x, 0), 2 * 27, 0, 16);
        x.tells(0, 16);
        Check.dues("GUTTERS 0 to 3 RIGHT", best(x, 0), 1 + 3 + 9 + 27, 0, 2);
        x.tells(0, 0);
        Check.dues("all RIGHT", best(x, 0), 121, 0, 1);
        Check.due("PEGS are as they were", x.settings(0), 242);
        x = Check.told(TWO + "rain 1;tune 3;sleep 0 0 1;");
        Check.dues("whoever is WOKEN", best(x, 0), 2, 0, 1);
        Check.says("how many are as near (2). BAD.");
        Check.dues("no such", new int[] {x.best(0, -1), x.best(0, 3), x.best(1, 0), x.best(-1, 0)},
                Check.BAD, Check.BAD, Check.BAD, Check.BAD);
    }

    private static void fewest() {
        Check.says("The least SETTINGS by which as few PEGS as can be are others than now and it plays as near as it can (what 0), how many PEGS (1).");
        RainOrgan x = Check.told("rain 1;tune 255;");
        Check.dues("no GUTTERS", fewest(x, 0), 0, 0);
        x = Check.told("rain 9;" + "peg ground ground;".repeat(5));
        Check.dues("as now", fewest(x, 0), 242, 0);
        x.settings(100);
        Check.dues("as now", fewest(x, 0), 100, 0);
        x = Check.told(FIVE + "rain 1;tune 0;");
        Check.dues("all five PEGS", fewest(x, 0), 121, 5);
        x.settings(121);
        Check.dues("none", fewest(x, 0), 121, 0);
        x.settings(120);
        Check.dues("the first PEG", fewest(x, 0), 121, 1);
        x.settings(121 - 81);
        Check.dues("the last PEG", fewest(x, 0), 121, 1);
        x.tells(0, 1);
        x.settings(121);
        // GUTTER 0 may be LEFT or both: one PEG either way, LEFT is the least
        Check.dues("of two the least", fewest(x, 0), 120, 1);
        x.settings(122);
        Check.dues("as few as can be, not the least", fewest(x, 0), 122, 0);
        Check.due("PEGS are as they were", x.settings(0), 122);
        x = Check.told(TWO + "rain 1;tune 3;sleep 0 0 1;");
        x.peg(0, 0);
        Check.dues("whoever is WOKEN", fewest(x, 0), 2, 1);
        Check.says("how many PEGS (1). BAD.");
        Check.dues("no such", new int[] {x.fewest(0, -1), x.fewest(0, 2), x.fewest(1, 0), x.fewest(-1, 0)},
                Check.BAD, Check.BAD, Check.BAD, Check.BAD);
    }

    private static void all() {
        Check.says("SETTINGS by which all SHOWERS together are least FAR, of several the least (what 0), how FAR (1).");
        RainOrgan x = Check.told(TWO + "rain 1;tune 2;");
        Check.dues("of one SHOWER", new int[] {x.all(0), x.all(1)}, 1, 0);
        x = Check.told(TWO + "rain 1;rain 1;rain 1 1 1;tune 3;");
        // LEFT and RIGHT: 1, 1 and 1 and 2; both: 0, 0 and 4
        Check.dues("of three", new int[] {x.all(0), x.all(1)}, 2, 4);
        x.tells(0, 0);
        Check.dues("of two SETTINGS the least", new int[] {x.all(0), x.all(1)}, 0, 5);
        x = Check.told("rain 9;rain 9;rain 9;tune 255 255;");
        Check.dues("no GUTTERS", new int[] {x.all(0), x.all(1)}, 0, 48);
        x = Check.told(FIVE + "rain 1;rain 1;tune 0;");
        Check.dues("all RIGHT", new int[] {x.all(0), x.all(1)}, 121, 0);
        Check.due("PEGS are as they were", x.settings(0), 242);
        Check.says("BAD; STATE: there are no SHOWERS.");
        x = Check.told(TWO + "tune 1;");
        Check.dues("no SHOWERS", new int[] {x.all(0), x.all(1), x.all(-1), x.all(2)}, Check.STATE, Check.STATE, Check.BAD, Check.BAD);
    }

    private static void quiet() {
        Check.says("SETTINGS by which nobody is WOKEN in a SHOWER, nearest to THE TUNE, of several the least (what 0), how FAR (1), how many wake nobody (2).");
        RainOrgan x = Check.told(TWO + "rain 1;tune 3;");
        Check.dues("no SLEEPERS", quiet(x, 0), 2, 0, 3);
        x = Check.told(TWO + "rain 1;tune 3;sleep 0 0 2;");
        Check.dues("LOUD 2: both wakes him", quiet(x, 0), 0, 1, 2);
        x = Check.told(TWO + "rain 1;tune 3;sleep 0 0 3;");
        Check.dues("LOUD 3: none wakes him", quiet(x, 0), 2, 0, 3);
        x = Check.told(TWO + "rain 1;tune 3;sleep 1 11 1;");
        Check.dues("he sleeps behind the SHOWER", quiet(x, 0), 2, 0, 3);
        x = Check.told(TWO + "rain 1;tune 2;sleep 0 0 2;");
        Check.dues("nearest, not the least", quiet(x, 0), 1, 0, 2);
        x = Check.told("rain 1;tune 1;sleep 0 11 1;");
        Check.dues("no GUTTERS", quiet(x, 0), 0, 1, 1);
        x = Check.told(FIVE + "rain 1;tune 31;sleep 0 0 1;");
        Check.dues("all RIGHT alone", quiet(x, 0), 121, 5, 1);
        Check.due("PEGS are as they were", x.settings(0), 242);

        Check.says("BAD; NONE (0, 1): somebody is WOKEN by all.");
        x = Check.told(TWO + "rain 1;tune 3;sleep 0 0 1;sleep 1 1 1;");
        Check.dues("WOKEN by all", quiet(x, 0), Check.NONE, Check.NONE, 0);
        Check.due("PEGS are as they were", x.settings(2), 2);
        Check.dues("no such", new int[] {x.quiet(0, -1), x.quiet(0, 3), x.quiet(1, 0), x.quiet(-1, 0)},
                Check.BAD, Check.BAD, Check.BAD, Check.BAD);
    }

    private static void woken() {
        Check.says("if LOUD of all SPOUTS, summed, is his or more in a SECOND from his first to his last one.");
        String loud = "roof 9 0;roof 9 0;peg spout 0 spout 1;spout 0 each 1;spout 1 each 1;";
        // each drop sounds: LOUD of both, summed, is 18 times the rain
        RainOrgan x = Check.told(loud + "rain 5;sleep 0 0 89;sleep 0 0 90;sleep 0 0 91;sleep 0 0 99;");
        Check.due("90: his, or one more", x.woken(0), 3);
        x = Check.told(loud + "rain 5 6;sleep 0 0 91;sleep 0 1 91;sleep 1 1 99;sleep 1 1 1;");
        Check.due("in one SECOND, not summed over SECONDS", x.woken(0), 14);
        x = Check.told("roof 1 0;peg spout 0 spout 0;spout 0 slate;rain 0 0 0 1 0 0 0 0 0 0 0 1;"
                + "sleep 0 2 1;sleep 4 10 1;sleep 0 3 1;sleep 11 11 1;");
        Check.due("the last SECOND is his, those beside are not", x.woken(0), 12);
        x = Check.told("roof 1 0;peg spout 0 spout 0;spout 0 slate;rain 0 0 0 1;sleep 3 3 1;sleep 3 11 1;sleep 4 11 1;sleep 2 4 1;");
        Check.due("the first SECOND is his", x.woken(0), 11);
        x = Check.told("roof 2 0;peg spout 0 spout 0;spout 0 each 1;rain 1 1;sleep 0 1 2;wear 2;sleep 1 1 1;");
        Check.due("what is BROKEN wakes nobody", x.woken(0), 1);

        x = Check.told("roof 1 0;peg spout 0 spout 0;spout 0 slate;rain 1 1 0 1;sleep 0 1 1;sleep 0 3 1;");
        Check.due("WOKEN twice, and three times", x.woken(0), 3);
        x = Check.told("roof 1 0;peg spout 0 spout 0;spout 0 slate;rain 1 1 1 1;rain 0;sleep 0 0 1;sleep 1 1 1;sleep 2 3 1;sleep 0 11 1;");
        Check.dues("a longer SHOWER is forgotten", new int[] {x.woken(0), x.woken(1), x.woken(0)}, 15, 0, 15);

        Check.says("WOKEN in a SHOWER (bits). BAD.");
        x = Check.told("rain 1;");
        Check.dues("nobody there", new int[] {x.woken(0), x.woken(1), x.woken(-1)}, 0, Check.BAD, Check.BAD);
        x = Check.told("roof 1 0;peg spout 0 spout 0;spout 0 slate;rain 1;" + "sleep 0 0 1;".repeat(4));
        Check.due("all four", x.woken(0), 15);
    }

    private static void heard() {
        Check.says("each row of SECONDS 0 to 3, as many as THE TUNE has (5 at most), by which it sounds just so.");
        String tip = "roof 1 0;peg spout 0 spout 0;spout 0 tip ";
        RainOrgan x = Check.told(tip + "3;tune 1;");
        Check.dues("3 is the most", heard(x), 1, 3);
        x = Check.told(tip + "4;tune 1;");
        Check.dues("4 is too much", heard(x), 0, Check.NONE);
        x = Check.told(tip + "1;tune 0;");
        Check.dues("0 is the least", heard(x), 1, 0);
        x = Check.told(tip + "4;tune 0 1;");
        // 1 3, 2 2, 2 3, 3 1, 3 2, 3 3
        Check.dues("two SECONDS", heard(x), 6, 7);
        x = Check.told("tune 0 0 0 0 0;");
        Check.dues("nothing there, five SECONDS", heard(x), 1024, 0);
        x = Check.told("roof 1 0;peg spout 0 spout 0;spout 0 each 15;tune 0 0 0 0 1;");
        Check.dues("most rain alone", heard(x), 1, 1023);
        x = Check.told("tune 0 0 0 0 1;");
        Check.dues("never", heard(x), 0, Check.NONE);
        x = Check.told("roof 1 0;peg spout 0 spout 0;spout 0 join 1 1;spout 1 slate;tune 1;");
        Check.dues("what would sound behind THE TUNE is not asked", heard(x), 3, 1);

        Check.says("how many rows (what 0), the first as a number, SECOND by SECOND a figure to the base 4, the first SECOND highest (1; NONE).");
        x = Check.told("roof 1 0;peg spout 0 spout 0;spout 0 slate;tune 1 0 0 0 0;");
        Check.dues("1 0 0 0 0", heard(x), 3, 256);
        x = Check.told("roof 1 0;peg spout 0 spout 0;spout 0 slate;tune 0 0 0 0 1;");
        Check.dues("0 0 0 0 1", heard(x), 3, 1);
        x = Check.told("roof 1 0;peg spout 0 spout 0;spout 0 slate;tune 1 0 1;");
        Check.dues("1 0 1", heard(x), 9, 17);

        Check.says("BAD; STATE: THE TUNE has no SECONDS or more than 5.");
        x = Check.told("rain 1;");
        Check.dues("no SECONDS", new int[] {x.heard(0), x.heard(1), x.heard(2), x.heard(-1)},
                Check.STATE, Check.STATE, Check.BAD, Check.BAD);
        for (int i = 0; i < 12; i++) {
            x.tells(i, 0);
            Check.due("SECONDS " + (i + 1), x.heard(1), i < 5 ? 0 : Check.STATE);
            Check.due("rows of " + (i + 1), x.heard(0), i < 5 ? 1 << 2 * (i + 1) : Check.STATE);
        }
        Check.dues("more than 5", new int[] {x.heard(2), x.heard(-1)}, Check.BAD, Check.BAD);
    }

    private static void blocked() {
        Check.says("GUTTERS, one alone of which (besides those that are) must be BLOCKED so that a SHOWER plays just THE TUNE (bits; 32: it does as it is).");
        RainOrgan x = Check.told(FIVE + "rain 1;rain 0;tune 31;");
        Check.due("it does as it is, by none BLOCKED", x.blocked(0), 32);
        for (int g = 0; g < 5; g++) {
            x.tells(0, g == 3 ? 31 - 8 - 16 : 31 - (1 << g));
            Check.due("GUTTER " + g, x.blocked(0), 1 << g);
        }
        x.tells(0, 31 - 1 - 2);
        Check.due("two must be", x.blocked(0), 0);
        x.block(0, true);
        Check.due("besides the one that is", x.blocked(0), 2);
        x.block(1, true);
        Check.due("both are: it does as it is", x.blocked(0), 32);
        x.tells(0, 0);
        x.block(3, true);
        Check.due("the last one that must be", x.blocked(0), 4);
        x.tells(0, 31);
        Check.due("what is BLOCKED is not freed", x.blocked(0), 0);
        x.tells(0, 0);
        Check.due("no rain: those that are not BLOCKED may be, too", x.blocked(1), 32 + 4 + 16);
        Check.dues("BLOCKS are as they were", new int[] {x.count(0), x.gutter(0, 3), x.gutter(1, 3), x.gutter(3, 3)}, 3, 1, 1, 1);
        Check.dues("no such", new int[] {x.blocked(-1), x.blocked(2)}, Check.BAD, Check.BAD);
        x = Check.told("rain 1;");
        Check.due("no GUTTERS, no TUNE", x.blocked(0), 32);
        x.tells(0, 1);
        Check.due("no GUTTERS", x.blocked(0), 0);
        x = Check.told(TWO + "rain 1;tune 3 0;");
        Check.due("a SECOND that there is not has no TONES", x.blocked(0), 32);
    }

    private static void frozen() {
        Check.says("SPOUTS, one alone of which (besides those that are) must be frozen so that a SHOWER plays just THE TUNE (bits).");
        StringBuilder text = new StringBuilder("roof 1 0;peg spout 0 ground;");
        for (int s = 0; s < 7; s++) {
            text.append("spout").append(s).append("join1 ").append(s + 1).append(';');
        }
        RainOrgan x = Check.told(text + "spout7slate;rain 1 0 0 0 0 0 0 0;rain 0;tune 1 2 4 8 16 32 64;");
        // a drop goes from CUP to CUP; the one that is frozen ends it
        Check.due("SPOUT 7", x.frozen(0), 128);
        for (int s = 6; s >= 0; s--) {
            x.tells(s, 0);
            Check.due("SPOUT " + s, x.frozen(0), 1 << s);
        }
        x.tells(0, 1);
        x.cup(1, 5);
        Check.due("as it is: those that no drop comes to may be, too", x.frozen(0), 255 - 1 - 2);
        x.tells(1, 2);
        Check.due("what is frozen is not freed", x.frozen(0), 0);
        x.tells(1, 0);
        x.tells(0, 0);
        Check.due("besides the one that is", x.frozen(0), 1);
        Check.due("no rain", x.frozen(1), 255 - 2);
        Check.dues("KINDS are as they were", new int[] {x.spout(0, 1), x.spout(1, 1), x.spout(6, 1), x.spout(7, 1)}, 4, 5, 4, 0);
        Check.dues("no such", new int[] {x.frozen(-1), x.frozen(2)}, Check.BAD, Check.BAD);
        x = Check.told("rain 1;");
        Check.due("no SPOUTS", x.frozen(0), 0);
        x = Check.told("roof 1 0;peg spout 0 spout 0;spout 0 slate;rain 1;tune 1;");
        Check.due("it does as it is, by none frozen", x.frozen(0), 0);
    }

    private static void lasts() {
        Check.says("How many times a SHOWER falls, one behind another, without getting dry (SECONDS go on), till a SPOUT is BROKEN.");
        String slate = "roof 1 0;peg spout 0 spout 0;spout 0 slate;rain 1;rain 9;rain 0;";
        Check.dues("WEAR 1", lasts(Check.told(slate + "wear 1;")), 1, 1, Check.NONE);
        Check.dues("WEAR 2", lasts(Check.told(slate + "wear 2;")), 2, 1, Check.NONE);
        Check.dues("WEAR 9", lasts(Check.told(slate + "wear 9;")), 9, 1, Check.NONE);
        Check.dues("WEAR 10", lasts(Check.told(slate + "wear 10;")), 10, 2, Check.NONE);
        RainOrgan x = Check.told("roof 1 0;peg spout 0 spout 1;spout 0 slate;spout 1 slate;rain 1;rain 1 1 1;wear 3;");
        // a SHOWER of an odd number of SECONDS begins by turns with an even and an odd one
        Check.dues("SECONDS go on", new int[] {x.lasts(0, 0), x.lasts(0, 1), x.lasts(1, 0), x.lasts(1, 1)}, 5, 6, 2, 2);
        x = Check.told("roof 1 0;peg spout 0 spout 0;spout 0 tip 4;spout 1 slate;spout 2 join 3 1;rain 2;wear 6;");
        Check.dues("SPOUTS that nothing comes to", new int[] {x.lasts(0, 0), x.lasts(0, 1), x.lasts(0, 2)}, 3, Check.NONE, Check.NONE);
        x = Check.told("roof 1 0;peg spout 0 spout 0;spout 0 join 3 1;spout 1 slate;rain 2;wear 6;");
        // 2 4 6 8: 3 are tipped behind two, three more behind three; they come with the third and the fourth
        Check.dues("what it HOLDS, what is ON THE WAY stays", new int[] {x.lasts(0, 0), x.lasts(0, 1)}, 3, 4);

        Check.says("BAD; NONE: not by 99.");
        Check.dues("WEAR 99: by 99", lasts(Check.told(slate + "wear 99;")), 99, 11, Check.NONE);
        Check.dues("WEAR 100: not by 99", lasts(Check.told(slate + "wear 100;")), Check.NONE, 12, Check.NONE);
        Check.dues("WEAR 891: by 99", lasts(Check.told(slate + "wear 891;")), Check.NONE, 99, Check.NONE);
        Check.dues("WEAR 892: not by 99", lasts(Check.told(slate + "wear 892;")), Check.NONE, Check.NONE, Check.NONE);
        Check.dues("no WEAR", lasts(Check.told(slate)), Check.NONE, Check.NONE, Check.NONE);
        x = Check.told(slate + "wear 1;");
        Check.dues("no such", new int[] {x.lasts(-1, 0), x.lasts(3, 0), x.lasts(0, -1), x.lasts(0, 1)},
                Check.BAD, Check.BAD, Check.BAD, Check.BAD);
        x.block(0, true);
        Check.dues("BLOCKED", lasts(x), Check.NONE, Check.NONE, Check.NONE);
    }

    private static int[] lasts(RainOrgan x) {
        return new int[] {x.lasts(0, 0), x.lasts(1, 0), x.lasts(2, 0)};
    }

    private static void draws() {
        Check.says("A SHOWER w becomes n SECONDS (1 to 12) by a seed:");
        RainOrgan x = Check.told("rain 5;rain 6 6 6 6 6 6 6 6 6 6 6 6;rain 7 7;");
        Check.due("n 12", x.draws(0, 12, 1, 5), 0);
        Check.dues("longer", new int[] {x.shower(0, -1), x.shower(0, 0), x.shower(0, 11), x.shower(0, 12)}, 12, 0, 0, Check.BAD);
        Check.due("n 1", x.draws(1, 1, 1, 5), 0);
        Check.dues("shorter", new int[] {x.shower(1, -1), x.shower(1, 0), x.shower(1, 1)}, 1, 0, Check.BAD);
        Check.dues("others stay", new int[] {x.rule(3), x.shower(2, -1), x.shower(2, 0), x.shower(2, 1)}, 3, 2, 7, 7);

        Check.says("bits 16 to 30 of it modulo m (1 to 10) is the rain: drops of rain, summed. BAD.");
        Check.due("the last SHOWER", x.draws(2, 3, 10, 0) >= 0 ? 1 : 0, 1);
        int[] kept = {x.shower(2, -1), x.shower(2, 0), x.shower(2, 1), x.shower(2, 2)};
        Check.dues("n", new int[] {x.draws(2, 0, 5, 1), x.draws(2, 13, 5, 1), x.draws(2, -1, 5, 1)}, Check.BAD, Check.BAD, Check.BAD);
        Check.dues("m", new int[] {x.draws(2, 3, 0, 1), x.draws(2, 3, 11, 1), x.draws(2, 3, -1, 1)}, Check.BAD, Check.BAD, Check.BAD);
        Check.dues("w", new int[] {x.draws(3, 3, 5, 1), x.draws(-1, 3, 5, 1)}, Check.BAD, Check.BAD);
        Check.dues("it is as it was", new int[] {x.shower(2, -1), x.shower(2, 0), x.shower(2, 1), x.shower(2, 2)}, kept);
        x = Check.told("rain 1;");
        Check.due("of one SHOWER the second", x.draws(1, 1, 1, 1), Check.BAD);
        Check.due("of none", new RainOrgan().draws(0, 1, 1, 1), Check.BAD);
    }

    private static void drawsWrapAround() {
        Check.says("SECOND by SECOND the seed becomes seed times 1103515245 and 12345,");
        // 77 * 1103515245 + 12345 = 84970686210; less 19 times 2 to the 32nd: 3366307586 = 0xc8a5c702; bits 16 to 30: 0x48a5
        RainOrgan x = Check.told("rain 1;");
        Check.due("seed 77", x.draws(0, 1, 10, 77), 0x48a5 % 10);
        // 12345 has no bits 16 to 30
        Check.due("seed 0", x.draws(0, 1, 10, 0), 0);
        // -1103502900 = 0xbe39e1cc: bits 16 to 30: 0x3e39
        Check.due("seed -1", x.draws(0, 1, 10, -1), 0x3e39 % 10);
        for (int seed : new int[] {0, 1, -1, 77, 65535, 65536, Integer.MAX_VALUE, Integer.MIN_VALUE, -1103515245}) {
            for (int m = 1; m <= 10; m++) {
                long state = seed & 0xffffffffL;
                int sum = 0;
                int[] rain = new int[12];
                for (int i = 0; i < 12; i++) {
                    state = (state * 1103515245L + 12345L) % 4294967296L;
                    // state times the factor is below 2 to the 63rd, as both are below 2 to the 32nd and the 31st
                    rain[i] = (int) (state / 65536 % 32768 % m);
                    sum += rain[i];
                }
                Check.due("draws of " + seed + ", m " + m, x.draws(0, 12, m, seed), sum);
                for (int i = 0; i < 12; i++) {
                    Check.due("SECOND " + i, x.shower(0, i), rain[i]);
                }
                x = Check.told("rain 1;");
            }
        }
    }
}
