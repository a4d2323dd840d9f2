import java.util.function.Consumer;

/** Boundary cases of IMAGES, of SHEETS and of count() (Terms, promises 33 to 39). */
public final class EdgeImageSheetTest {
    private static final String TIP = "roof 1 0;peg spout 0 spout 0;spout 0 tip 30;";

    public static void main(String[] args) {
        keep();
        back();
        sheet();
        lay();
        lowestBits();
        read();
        readRefusedByTheMachine();
        readNoRain();
        readBad();
        torn();
        count();
        Check.finish("EdgeImageSheetTest");
    }

    private static void keep() {
        Check.says("PEGS, BLOCKS, KINDS, SHOWERS, THE TUNE: whether there was one (1, 0). BAD.");
        RainOrgan x = new RainOrgan();
        Check.dues("of nothing there", new int[] {x.keep(0), x.keep(0), x.keep(1), x.keep(1), x.count(2)}, 0, 1, 0, 1, 2);
        Check.dues("no such", new int[] {x.keep(-1), x.keep(2), x.keep(Integer.MIN_VALUE), x.keep(Integer.MAX_VALUE)},
                Check.BAD, Check.BAD, Check.BAD, Check.BAD);
        x.back(0);
        Check.due("back() leaves it", x.keep(0), 1);
        x.dry();
        Check.due("dry() leaves it", x.keep(1), 1);
        Check.feed(x, "!");
        x.organ();
        Check.due("a FAULT leaves it", x.keep(1), 1);
        x.organ();
        Check.due("IMAGES are gone by a text", x.keep(0), 0);
    }

    private static void back() {
        Check.says("All is as IMAGE k: its SECOND.");
        isBrought("rain()", x -> x.rain(9));
        isBrought("rain() till all is BROKEN", x -> {
            for (int i = 0; i < 20; i++) {
                x.rain(9);
            }
        });
        isBrought("rain() on all CUPS", x -> {
            x.block(2, false);
            x.rain(3);
            x.rain(2);
        });
        isBrought("dry()", RainOrgan::dry);
        isBrought("peg()", x -> x.peg(2, 1));
        isBrought("settings()", x -> x.settings(14));
        isBrought("block()", x -> {
            x.block(0, true);
            x.block(2, false);
        });
        isBrought("cup()", x -> {
            for (int s = 0; s < 6; s++) {
                x.cup(s, s % 2 == 0 ? 0 : 5);
            }
        });
        isBrought("draws()", x -> {
            x.draws(0, 12, 10, 7);
            x.draws(1, 1, 10, 8);
        });
        isBrought("tells()", x -> {
            x.tells(0, 200);
            x.tells(5, 201);
            x.tells(6, 202);
        });
        isBrought("back() of the other IMAGE", x -> x.back(0));

        Check.says("is how the organ by hand is (CUPS, HITS, ON THE WAY, SECOND, water)");
        RainOrgan x = Check.told("roof 1 0;peg spout 0 spout 0;spout 0 each 3;");
        x.rain(2);
        x.keep(0);
        x.rain(2);
        x.back(0);
        Check.due("two are counted: the third drop sounds", x.rain(1), 1);
        x = Check.told("roof 1 0;peg spout 0 spout 0;spout 0 join 2 1;spout 1 slate;");
        x.rain(2);
        x.keep(0);
        x.rain(0);
        Check.due("none ON THE WAY", x.spout(1, 7), 0);
        x.back(0);
        Check.dues("two are ON THE WAY", new int[] {x.spout(1, 7), x.water(4), x.rain(0)}, 2, 2, 2);

        Check.says("BAD; STATE: there is none.");
        x = new RainOrgan();
        Check.dues("none", new int[] {x.back(0), x.back(1)}, Check.STATE, Check.STATE);
        x.keep(1);
        Check.dues("the other one", new int[] {x.back(0), x.back(1)}, Check.STATE, 0);
        Check.dues("no such", new int[] {x.back(-1), x.back(2), x.back(Integer.MIN_VALUE), x.back(Integer.MAX_VALUE)},
                Check.BAD, Check.BAD, Check.BAD, Check.BAD);
        x.rain(1);
        x.rain(1);
        x.keep(0);
        Check.dues("its SECOND", new int[] {x.back(1), x.water(0), x.back(0), x.water(0), x.back(0)}, 0, 0, 2, 2, 2);
        Check.tell(x, "wear 1;");
        Check.dues("gone by a text", new int[] {x.back(0), x.back(1)}, Check.STATE, Check.STATE);
    }

    /** Whatever came since: all is as it was when the IMAGE was kept, to every call. */
    private static void isBrought(String since, Consumer<RainOrgan> calls) {
        Twins.same("back() behind " + since, () -> {
            RainOrgan x = Twins.busy();
            x.keep(1);
            calls.accept(x);
            x.back(1);
            return x;
        }, () -> {
            RainOrgan x = Twins.busy();
            x.keep(1);
            return x;
        });
        // the IMAGE is not changed by what comes behind back()
        Twins.same("back() twice, behind " + since, () -> {
            RainOrgan x = Twins.busy();
            x.keep(1);
            x.back(1);
            calls.accept(x);
            x.back(1);
            return x;
        }, () -> {
            RainOrgan x = Twins.busy();
            x.keep(1);
            return x;
        });
    }

    private static void sheet() {
        Check.says("with 0 to 40 CELLS, or nothing (at first).");
        RainOrgan x = new RainOrgan();
        Check.due("nothing at first", x.count(4), Check.NONE);
        for (int lane = 0; lane < 3; lane++) {
            for (int k = 0; k < 4; k++) {
                Check.due("0 CELLS", x.sheet(k, lane, 0), 1);
                Check.due("no CELL 0", x.lay(k, 0, 1), -12);
                Check.due("40 CELLS", x.sheet(k, lane, 40), 1);
                Check.dues("CELLS 0 and 39, no CELL 40", new int[] {x.lay(k, 0, 1), x.lay(k, 39, 1), x.lay(k, 40, 1)}, 1, 1, -12);
                Check.due("1 CELL", x.sheet(k, lane, 1), 1);
                Check.dues("CELL 0, no CELL 1", new int[] {x.lay(k, 0, 1), x.lay(k, 1, 1)}, 1, -12);
            }
        }

        Check.says("A SHEET is a new row of CELLS 0: 1.");
        x = new RainOrgan();
        for (int lane = 0; lane < 3; lane++) {
            x.sheet(0, lane, 12);
            for (int i = 0; i < 12; i++) {
                x.lay(0, i, 10);
            }
            Check.due("no rain there", x.read(0, lane, 0, 12), -20);
            Check.due("sheet()", x.sheet(0, lane, 12), 1);
            Check.due("all are rain now", x.read(0, lane, 0, 12), 12);
        }
        x = Check.told(TIP);
        for (int lane = 0; lane < 3; lane++) {
            x.sheet(1, lane, 12);
            Check.dues("all are 0", new int[] {x.read(1, lane, 0, 12), x.water(1)}, 12, 0);
        }
        x.sheet(0, 0, 2);
        x.lay(0, 1, 10);
        x.sheet(0, 0, 1);
        x.sheet(0, 0, 2);
        Check.due("what was behind a shorter row is gone", x.read(0, 0, 0, 2), 2);

        Check.says("BAD: also n above 40; -14 (SIZE): n below 0.");
        Check.dues("above", new int[] {x.sheet(0, 0, 41), x.sheet(0, 0, Integer.MAX_VALUE)}, Check.BAD, Check.BAD);
        Check.dues("below", new int[] {x.sheet(0, 0, -1), x.sheet(0, 0, Integer.MIN_VALUE)}, -14, -14);
        Check.dues("no such SHEET", new int[] {x.sheet(-1, 0, 1), x.sheet(4, 0, 1), x.sheet(4, 0, -1)}, Check.BAD, Check.BAD, Check.BAD);
        Check.dues("no such lane", new int[] {x.sheet(0, -1, 1), x.sheet(0, 3, 1), x.sheet(0, 3, -1)}, Check.BAD, Check.BAD, Check.BAD);
        Check.due("the row that was stays", x.count(4), 2);
        x = new RainOrgan();
        x.sheet(0, 0, -1);
        Check.due("nothing stays nothing", x.count(4), Check.NONE);
    }

    private static void lay() {
        Check.says("CELL i of a SHEET becomes v (its lowest bits): 1. BAD: k; -10 less the FAULT: NULL, INDEX.");
        RainOrgan x = Check.told(TIP);
        x.sheet(1, 2, 3);
        Check.dues("CELLS", new int[] {x.lay(1, 0, 3), x.lay(1, 2, 5), x.lay(1, 1, 4)}, 1, 1, 1);
        Check.dues("INDEX", new int[] {x.lay(1, -1, 3), x.lay(1, 3, 5), x.lay(1, Integer.MAX_VALUE, 4), x.lay(1, Integer.MIN_VALUE, 4)},
                -12, -12, -12, -12);
        Check.dues("NULL, whatever i is", new int[] {x.lay(0, 0, 3), x.lay(0, -1, 5), x.lay(0, 40, 4)}, -11, -11, -11);
        Check.dues("BAD", new int[] {x.lay(-1, 0, 3), x.lay(4, 0, 5), x.lay(4, -1, 5)}, Check.BAD, Check.BAD, Check.BAD);
        Check.due("they are as they became", x.read(1, 2, 0, 3), 3);
        Check.due("drops", x.water(1), 12);
        x.lay(1, 0, 1);
        x.lay(1, 0, 2);
        x.read(1, 2, 0, 1);
        Check.due("the latest v", x.water(1), 14);
    }

    private static void lowestBits() {
        Check.says("SHEETS 0 to 3 are rows of BYTES (lane 0), SHORTS (1), INTS (2), all with a sign");
        // lane by lane: v, and the rain that it is; -1: none
        int[][] laid = {
            {0, 9, 10, 127, 128, 255, 256, 265, 266, -1, -128, -256, -247, -246, 65536, Integer.MIN_VALUE, Integer.MAX_VALUE},
            {0, 9, 10, 256, 32767, 32768, 65535, 65536, 65545, 65546, -1, -65536, -65527, Integer.MIN_VALUE, Integer.MAX_VALUE},
            {0, 9, 10, 256, 65536, 65545, -1, Integer.MIN_VALUE, Integer.MAX_VALUE}};
        int[][] rain = {
            {0, 9, -1, -1, -1, -1, 0, 9, -1, -1, -1, 0, 9, -1, 0, 0, -1},
            {0, 9, -1, -1, -1, -1, -1, 0, 9, -1, -1, 0, 9, 0, -1},
            {0, 9, -1, -1, -1, -1, -1, -1, -1}};
        for (int lane = 0; lane < 3; lane++) {
            for (int i = 0; i < laid[lane].length; i++) {
                RainOrgan x = Check.told(TIP);
                x.sheet(lane, lane, 1);
                Check.due("lay", x.lay(lane, 0, laid[lane][i]), 1);
                boolean is = rain[lane][i] >= 0;
                Check.due("lane " + lane + ", v " + laid[lane][i], x.read(lane, lane, 0, 1), is ? 1 : -20);
                Check.due("drops of " + laid[lane][i], x.water(1), is ? rain[lane][i] : 0);
            }
        }
    }

    /** Twelve cells and more: 0 1 2 .. 9 0 1 2 .. in sheet 0, of a lane. */
    private static RainOrgan rows(int lane, int n) {
        RainOrgan x = Check.told("roof 1 0;peg spout 0 spout 0;spout 0 tip 7;");
        x.sheet(0, lane, n);
        for (int i = 0; i < n; i++) {
            x.lay(0, i, i % 10);
        }
        return x;
    }

    private static void read() {
        Check.says("n (0 to 12) SECONDS of rain are read of a SHEET taken as of a lane, from CELL f on, one behind another as by rain(): how many came.");
        for (int lane = 0; lane < 3; lane++) {
            RainOrgan x = rows(lane, 40);
            RainOrgan byHand = rows(lane, 40);
            for (int f : new int[] {0, 1, 27, 28}) {
                Check.due("twelve of 40 from " + f, x.read(0, lane, f, 12), 12);
                for (int i = f; i < f + 12; i++) {
                    byHand.rain(i % 10);
                }
                Check.due("torn()", x.torn(), 0);
                Check.dues("as by rain()", new int[] {x.water(0), x.water(1), x.water(2), x.water(3), x.water(5), x.loud(0)},
                        byHand.water(0), byHand.water(1), byHand.water(2), byHand.water(3), byHand.water(5), byHand.loud(0));
            }
        }
        RainOrgan x = rows(0, 1);
        Check.dues("one of one", new int[] {x.read(0, 0, 0, 1), x.torn(), x.water(0)}, 1, 0, 1);
    }

    private static void readRefusedByTheMachine() {
        Check.says("What the machine refuses: those ahead come (its FAULT is asked by torn();");
        RainOrgan x = rows(1, 40);
        Check.dues("eleven ahead", new int[] {x.read(0, 1, 29, 12), x.torn(), x.water(0), x.water(1)}, 11, 2, 11, 54);
        Check.dues("one ahead", new int[] {x.read(0, 1, 39, 12), x.torn(), x.water(0), x.water(1)}, 1, 2, 12, 63);
        Check.dues("none ahead", new int[] {x.read(0, 1, 40, 1), x.torn(), x.water(0)}, 0, 2, 12);
        Check.dues("far above", new int[] {x.read(0, 1, Integer.MAX_VALUE, 12), x.torn(), x.water(0)}, 0, 2, 12);
        Check.dues("one below", new int[] {x.read(0, 1, -1, 12), x.torn(), x.water(0)}, 0, 2, 12);
        Check.dues("far below", new int[] {x.read(0, 1, Integer.MIN_VALUE, 12), x.torn(), x.water(0)}, 0, 2, 12);
        x = rows(0, 12);
        Check.dues("just all", new int[] {x.read(0, 0, 0, 12), x.torn()}, 12, 0);
        Check.dues("the last one alone", new int[] {x.read(0, 0, 11, 1), x.torn()}, 1, 0);
        Check.dues("the last one and one more", new int[] {x.read(0, 0, 11, 2), x.torn()}, 1, 2);
        x.sheet(2, 2, 0);
        Check.dues("0 CELLS", new int[] {x.read(2, 2, 0, 1), x.torn()}, 0, 2);

        Check.says("A FAULT is what the machine finds: 1 NULL (nothing), 2 INDEX, 3 CAST (another lane), 4 SIZE (below 0).");
        Check.dues("NULL", new int[] {x.read(1, 0, 0, 1), x.torn()}, 0, 1);
        Check.dues("NULL, whatever f is", new int[] {x.read(1, 2, -1, 1), x.torn()}, 0, 1);
        Check.dues("CAST", new int[] {x.read(0, 1, 0, 1), x.torn(), x.read(0, 2, 0, 1), x.torn()}, 0, 3, 0, 3);
        Check.dues("CAST ahead of INDEX", new int[] {x.read(0, 1, 12, 1), x.torn(), x.read(2, 0, 0, 1), x.torn()}, 0, 3, 0, 3);
        x.lay(0, 0, 10);
        Check.dues("CAST ahead of no rain", new int[] {x.read(0, 1, 0, 1), x.torn()}, 0, 3);
        Check.due("SIZE", x.sheet(0, 0, -1), -14);
        Check.due("none of them brought rain", x.water(0), 14);

        Check.says("of n 0: 0, no FAULT, whatever the SHEET is).");
        x.read(0, 1, 0, 1);
        Check.dues("of nothing", new int[] {x.torn(), x.read(1, 0, 0, 0), x.torn()}, 3, 0, 0);
        x.read(0, 1, 0, 1);
        Check.dues("of another lane", new int[] {x.torn(), x.read(0, 2, 0, 0), x.torn()}, 3, 0, 0);
        x.read(0, 1, 0, 1);
        Check.dues("behind its CELLS", new int[] {x.torn(), x.read(0, 0, 99, 0), x.torn()}, 3, 0, 0);
        x.read(0, 1, 0, 1);
        Check.dues("ahead of its CELLS", new int[] {x.torn(), x.read(0, 0, -1, 0), x.torn()}, 3, 0, 0);
        x.read(0, 1, 0, 1);
        Check.dues("no rain", new int[] {x.torn(), x.read(0, 0, 0, 0), x.torn()}, 3, 0, 0);
        Check.due("no SECOND came", x.water(0), 14);
    }

    private static void readNoRain() {
        Check.says("-20 less i (0 on): CELL f + i is no rain: then none came.");
        for (int i = 0; i < 12; i++) {
            for (int v : new int[] {10, -1}) {
                RainOrgan x = rows(2, 14);
                x.lay(0, i + 1, v);
                Check.due("CELL 1 and " + i, x.read(0, 2, 1, 12), -20 - i);
                Check.dues("none came", new int[] {x.water(0), x.water(1), x.loud(0)}, 0, 0, 0);
                Check.due("those ahead", x.read(0, 2, 1, i), i);
            }
        }
        RainOrgan x = rows(2, 3);
        x.lay(0, 2, 10);
        Check.due("no rain ahead of INDEX", x.read(0, 2, 0, 12), -22);
        Check.due("INDEX ahead of no rain", x.read(0, 2, -1, 12), 0);
        Check.due("of two the first", x.lay(0, 1, 11), 1);
        Check.due("of two the first", x.read(0, 2, 0, 3), -21);
        Check.due("what is not asked for may be no rain", x.read(0, 2, 0, 1), 1);
        Check.due("it came", x.water(0), 1);
    }

    private static void readBad() {
        Check.says("BAD: k, lane, n;");
        RainOrgan x = rows(0, 13);
        Check.dues("k", new int[] {x.read(-1, 0, 0, 1), x.read(4, 0, 0, 1), x.read(4, 0, 0, 0)}, Check.BAD, Check.BAD, Check.BAD);
        Check.dues("lane", new int[] {x.read(0, -1, 0, 1), x.read(0, 3, 0, 1), x.read(0, 3, 0, 0)}, Check.BAD, Check.BAD, Check.BAD);
        Check.dues("n", new int[] {x.read(0, 0, 0, -1), x.read(0, 0, 0, 13), x.read(0, 0, 0, Integer.MAX_VALUE),
            x.read(0, 0, 0, Integer.MIN_VALUE)}, Check.BAD, Check.BAD, Check.BAD, Check.BAD);
        Check.dues("of nothing", new int[] {x.read(1, 0, 0, 13), x.read(1, 3, 0, 1)}, Check.BAD, Check.BAD);
        Check.due("none came", x.water(0), 0);
    }

    private static void torn() {
        Check.says("The FAULT of the latest read() that answered 0 or more; 0 (one that is refused leaves it).");
        RainOrgan x = rows(0, 3);
        Check.due("none yet", x.torn(), 0);
        x.read(0, 0, 2, 2);
        Check.due("one came, then INDEX", x.torn(), 2);
        x.read(4, 0, 0, 1);
        Check.due("BAD leaves it", x.torn(), 2);
        x.lay(0, 0, 10);
        x.read(0, 0, 0, 1);
        Check.due("no rain leaves it", x.torn(), 2);
        x.lay(1, 0, 0);
        Check.due("lay() leaves it, whatever it finds", x.torn(), 2);
        x.sheet(1, 0, -1);
        Check.due("sheet() leaves it, whatever it finds", x.torn(), 2);
        x.dry();
        x.keep(0);
        x.back(0);
        Check.due("back() leaves it", x.torn(), 2);
        x.read(1, 0, 0, 1);
        Check.due("NULL", x.torn(), 1);
        x.read(0, 1, 0, 1);
        Check.due("CAST", x.torn(), 3);
        x.read(0, 0, 1, 2);
        Check.due("none", x.torn(), 0);
    }

    private static void count() {
        Check.says("How many: 0 BLOCKED GUTTERS, 1 BROKEN SPOUTS, 2 IMAGES, 3 bytes on THE TAPE, 4 CELLS of SHEET 0 (NONE: nothing). BAD.");
        RainOrgan x = Check.told("roof 8 0;peg spout 0 gutter 1;peg spout 1 gutter 2;peg spout 2 gutter 3;peg spout 3 gutter 4;"
                + "peg spout 4 spout 5;spout0slate;spout0slate;spout0slate;spout0slate;spout0slate;spout0slate;wear 4;");
        Check.dues("none", new int[] {x.count(0), x.count(1), x.count(2), x.count(3), x.count(4)}, 0, 0, 0, 0, Check.NONE);
        x.rain(1);
        Check.due("4 drops on SPOUT 0, less on the others", x.count(1), 1);
        for (int i = 0; i < 60; i++) {
            x.rain(9);
        }
        Check.due("all", x.count(1), 6);
        for (int g = 0; g < 5; g++) {
            x.block(g, true);
        }
        x.keep(0);
        x.keep(1);
        x.feed(0L);
        x.end(1);
        x.sheet(0, 0, 0);
        Check.dues("all", new int[] {x.count(0), x.count(1), x.count(2), x.count(3), x.count(4)}, 5, 6, 2, 1, 0);
        x.sheet(0, 2, 40);
        x.sheet(1, 2, 39);
        Check.due("CELLS of SHEET 0", x.count(4), 40);
        x.end(0);
        for (int i = 0; i < 40; i++) {
            x.feed(0L);
        }
        Check.due("bytes", x.count(3), 320);
        Check.dues("no such", new int[] {x.count(-1), x.count(5), x.count(Integer.MIN_VALUE), x.count(Integer.MAX_VALUE)},
                Check.BAD, Check.BAD, Check.BAD, Check.BAD);
        x = new RainOrgan();
        x.sheet(1, 0, 3);
        Check.due("SHEET 1 is another", x.count(4), Check.NONE);
    }
}
