/** Promises 33 to 39: images and sheets. */
public final class ImageSheetTest {
    private static final String ORGAN = "roof 3 0;peg spout 0 spout 1;spout 0 join 2 2;spout 1 each 4;spout 2 tip 30;"
            + "rain 1 2;rain 3;tune 1 2;wear 6;";

    public static void main(String[] args) {
        images();
        twoImages();
        sheets();
        lanes();
        reads();
        refusedReads();
        counts();
        Check.finish("ImageSheetTest");
    }

    private static int[] byHand(RainOrgan x) {
        int[] row = new int[6 + 3 * 8];
        for (int what = 0; what < 6; what++) {
            row[what] = x.water(what);
        }
        for (int s = 0; s < 3; s++) {
            for (int what = 1; what < 8; what++) {
                row[6 + s * 8 + what - 1] = x.spout(s, what);
            }
            row[6 + s * 8 + 7] = x.loud(s);
        }
        return row;
    }

    private static void images() {
        RainOrgan x = Check.told(ORGAN);
        Check.due("back(0) at first", x.back(0), Check.STATE);
        Check.due("back(2)", x.back(2), Check.BAD);
        Check.due("back(-1)", x.back(-1), Check.BAD);
        Check.due("keep(2)", x.keep(2), Check.BAD);
        Check.due("keep(-1)", x.keep(-1), Check.BAD);
        x.rain(2);
        x.rain(1);
        x.rain(1);
        int[] was = byHand(x);
        Check.due("keep(0)", x.keep(0), 0);
        Check.due("keep(0) again", x.keep(0), 1);
        Check.due("count(2)", x.count(2), 1);
        x.rain(9);
        x.peg(0, 0);
        x.block(0, true);
        x.cup(0, 5);
        x.cup(1, 0);
        x.draws(0, 12, 10, 5);
        x.draws(1, 2, 10, 6);
        x.tells(0, 200);
        x.tells(2, 3);
        x.sheet(0, 2, 3);
        x.read(1, 0, 0, 1);
        Check.feed(x, "wear");
        Check.due("back(0)", x.back(0), 3);
        Check.dues("by hand", byHand(x), was);
        Check.due("peg", x.gutter(0, 2), 2);
        Check.due("block", x.gutter(0, 3), 0);
        Check.dues("shower 0", new int[] {x.shower(0, -1), x.shower(0, 0), x.shower(0, 1)}, 2, 1, 2);
        Check.dues("shower 1", new int[] {x.shower(1, -1), x.shower(1, 0)}, 1, 3);
        Check.dues("tune", new int[] {x.rule(4), x.tune(0), x.tune(1)}, 2, 1, 2);
        Check.due("the sheet stays", x.count(4), 3);
        Check.due("torn stays", x.torn(), 1);
        Check.due("the tape stays", x.count(3), 4);
        // the count is back, too: 7 of 12 drops came to spout 1
        Check.due("the image stays", x.count(2), 1);
        x.dry();
        x.rain(1);
        Check.due("back(0) once more", x.back(0), 3);
        Check.dues("by hand", byHand(x), was);
        x.rain(0);
        int[] then = byHand(x);
        x.back(0);
        x.rain(0);
        Check.dues("it goes on as it did", byHand(x), then);
    }

    private static void twoImages() {
        RainOrgan x = Check.told(ORGAN);
        Check.due("keep(1)", x.keep(1), 0);
        x.rain(1);
        x.peg(0, 1);
        Check.due("keep(0)", x.keep(0), 0);
        Check.due("count(2)", x.count(2), 2);
        x.rain(1);
        Check.due("back(1)", x.back(1), 0);
        Check.due("peg", x.gutter(0, 2), 2);
        Check.due("loud is as in the image", x.loud(0), 0);
        Check.due("back(0)", x.back(0), 1);
        Check.due("peg", x.gutter(0, 2), 1);
        Check.due("loud is as in the image", x.loud(0), 1);
        x.peg(0, 0);
        Check.due("keep(0) in its place", x.keep(0), 1);
        x.peg(0, 2);
        x.back(0);
        Check.due("peg", x.gutter(0, 2), 0);
        // the count of an each cup is kept
        x = Check.told("roof 1 0;peg spout 0 spout 0;spout 0 each 3;");
        x.rain(2);
        x.keep(0);
        x.rain(1);
        x.rain(1);
        x.back(0);
        Check.due("the third drop", x.rain(1), 1);
    }

    private static void sheets() {
        RainOrgan x = new RainOrgan();
        Check.due("sheet(0, 0, 0)", x.sheet(0, 0, 0), 1);
        Check.due("count(4)", x.count(4), 0);
        Check.due("lay(0, 0, 1)", x.lay(0, 0, 1), -12);
        Check.due("sheet(0, 2, 40)", x.sheet(0, 2, 40), 1);
        Check.due("count(4)", x.count(4), 40);
        Check.due("sheet(0, 2, 41)", x.sheet(0, 2, 41), Check.BAD);
        Check.due("sheet(0, 2, -1)", x.sheet(0, 2, -1), -14);
        Check.due("sheet(0, 2, min)", x.sheet(0, 2, Integer.MIN_VALUE), -14);
        Check.due("sheet(4, 2, -1)", x.sheet(4, 2, -1), Check.BAD);
        Check.due("sheet(-1, 2, 1)", x.sheet(-1, 2, 1), Check.BAD);
        Check.due("sheet(0, 3, -1)", x.sheet(0, 3, -1), Check.BAD);
        Check.due("sheet(0, -1, 1)", x.sheet(0, -1, 1), Check.BAD);
        Check.due("what is refused changes nothing", x.count(4), 40);
        Check.due("lay(0, 39, 9)", x.lay(0, 39, 9), 1);
        Check.due("lay(0, 40, 9)", x.lay(0, 40, 9), -12);
        Check.due("lay(0, -1, 9)", x.lay(0, -1, 9), -12);
        Check.due("lay(1, 0, 9)", x.lay(1, 0, 9), -11);
        Check.due("lay(1, -1, 9)", x.lay(1, -1, 9), -11);
        Check.due("lay(4, 0, 9)", x.lay(4, 0, 9), Check.BAD);
        Check.due("lay(-1, 0, 9)", x.lay(-1, 0, 9), Check.BAD);
        Check.due("sheet(3, 1, 2)", x.sheet(3, 1, 2), 1);
        Check.due("lay(3, 1, 10)", x.lay(3, 1, 10), 1);
        Check.due("read(3, 1, 0, 2)", x.read(3, 1, 0, 2), -21);
        Check.due("a new row", x.sheet(3, 1, 2), 1);
        Check.due("its cells are 0", x.read(3, 1, 0, 2), 2);
    }

    private static void lanes() {
        RainOrgan x = Check.told("roof 1 0;peg ground ground;");
        for (int k = 0; k < 3; k++) {
            x.sheet(k, k, 1);
            for (int lane = 0; lane < 3; lane++) {
                Check.due("read of sheet " + k + " as of lane " + lane, x.read(k, lane, 0, 1), k == lane ? 1 : 0);
                Check.due("torn()", x.torn(), k == lane ? 0 : 3);
            }
        }
        int[] values = {256 + 3, 65536 + 4, 65536 * 2 + 256 + 5, 128, 255, 32768, -256 + 9, -65536 + 8, 9, 10, -1};
        for (int v : values) {
            for (int lane = 0; lane < 3; lane++) {
                int cell = lane == 0 ? (byte) v : lane == 1 ? (short) v : v;
                x.lay(lane, 0, v);
                int before = x.water(1);
                boolean rain = cell >= 0 && cell <= 9;
                Check.due("read of " + v + " in lane " + lane, x.read(lane, lane, 0, 1), rain ? 1 : -20);
                Check.due("drops", x.water(1) - before, rain ? cell : 0);
            }
        }
    }

    private static void reads() {
        RainOrgan x = Check.told("roof 1 0;peg spout 0 spout 0;spout 4 tip 3;");
        x.sheet(2, 0, 15);
        for (int i = 0; i < 15; i++) {
            x.lay(2, i, i % 10);
        }
        Check.due("read(2, 0, 0, 12)", x.read(2, 0, 0, 12), 12);
        Check.due("SECONDS", x.water(0), 12);
        Check.due("drops", x.water(1), 46);
        Check.due("loud of the last", x.loud(0), 0);
        Check.due("read(2, 0, 13, 1)", x.read(2, 0, 13, 1), 1);
        Check.due("drops", x.water(1), 49);
        Check.due("loud of the last", x.loud(0), 1);
        Check.due("torn", x.torn(), 0);
        Check.due("read(2, 0, 13, 12)", x.read(2, 0, 13, 12), 2);
        Check.due("torn", x.torn(), 2);
        Check.due("drops", x.water(1), 56);
        Check.due("SECONDS", x.water(0), 15);
        Check.due("read(2, 0, 15, 3)", x.read(2, 0, 15, 3), 0);
        Check.due("torn", x.torn(), 2);
        Check.due("of n 0", x.read(2, 0, 99, 0), 0);
        Check.due("no fault", x.torn(), 0);
        Check.due("read(2, 0, -1, 3)", x.read(2, 0, -1, 3), 0);
        Check.due("torn", x.torn(), 2);
        Check.due("of n 0, of nothing", x.read(0, 0, 0, 0), 0);
        Check.due("no fault", x.torn(), 0);
        Check.due("of nothing", x.read(0, 2, 0, 1), 0);
        Check.due("torn", x.torn(), 1);
        Check.due("of n 0, of another lane", x.read(2, 1, 0, 0), 0);
        Check.due("no fault", x.torn(), 0);
        Check.due("of another lane, beyond", x.read(2, 1, 77, 1), 0);
        Check.due("torn", x.torn(), 3);
        Check.due("max", x.read(2, 0, Integer.MAX_VALUE, 12), 0);
        Check.due("torn", x.torn(), 2);
        Check.due("min", x.read(2, 0, Integer.MIN_VALUE, 12), 0);
        Check.due("torn", x.torn(), 2);
        Check.due("SECONDS", x.water(0), 15);
    }

    private static void refusedReads() {
        RainOrgan x = Check.told("roof 1 0;peg spout 0 spout 0;spout 4 tip 3;");
        x.sheet(1, 2, 3);
        x.lay(1, 0, 4);
        x.lay(1, 1, 5);
        x.lay(1, 2, 10);
        Check.due("torn by an index", x.read(1, 2, 3, 1), 0);
        Check.due("torn", x.torn(), 2);
        Check.due("no rain ahead of the fault", x.read(1, 2, 0, 12), -22);
        Check.due("no rain ahead of the fault", x.read(1, 2, 1, 12), -21);
        Check.due("no rain at once", x.read(1, 2, 2, 1), -20);
        Check.due("none came", x.water(0), 0);
        Check.due("torn is left", x.torn(), 2);
        Check.due("up to it", x.read(1, 2, 0, 2), 2);
        Check.due("torn", x.torn(), 0);
        x.read(1, 0, 0, 1);
        Check.due("k 4", x.read(4, 2, 0, 1), Check.BAD);
        Check.due("k -1", x.read(-1, 2, 0, 1), Check.BAD);
        Check.due("lane 3", x.read(1, 3, 0, 1), Check.BAD);
        Check.due("lane -1", x.read(1, -1, 0, 1), Check.BAD);
        Check.due("n 13", x.read(1, 2, 0, 13), Check.BAD);
        Check.due("n -1", x.read(1, 2, 0, -1), Check.BAD);
        Check.due("n 0 of lane 3", x.read(1, 3, 0, 0), Check.BAD);
        Check.due("torn is left", x.torn(), 3);
    }

    private static void counts() {
        RainOrgan x = Check.told(ORGAN);
        Check.dues("count", new int[] {x.count(0), x.count(1), x.count(2), x.count(3), x.count(4)}, 0, 0, 0, 0, Check.NONE);
        x.block(0, true);
        x.keep(1);
        x.feed(0);
        x.end(7);
        x.sheet(0, 0, 5);
        x.sheet(1, 0, 6);
        Check.dues("count", new int[] {x.count(0), x.count(1), x.count(2), x.count(3), x.count(4)}, 1, 0, 1, 7, 5);
        x.block(0, false);
        x.rain(4);
        Check.dues("count", new int[] {x.count(0), x.count(1)}, 0, 2);
        x.rain(0);
        Check.due("count(1)", x.count(1), 3);
        Check.due("count(5)", x.count(5), Check.BAD);
        Check.due("count(-1)", x.count(-1), Check.BAD);
    }
}
