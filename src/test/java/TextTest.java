/** Promises 2 to 5: the tape, its tokens, its grammar, its faults. */
public final class TextTest {
    public static void main(String[] args) {
        tape();
        tokens();
        misplaced();
        bounds();
        again();
        tooMany();
        missing();
        taken();
        refused();
        Check.finish("TextTest");
    }

    /** The fault that is due, also if more of them stand behind it. */
    private static void fails(String text, int place, int fault) {
        failsAlone(text, place, fault);
        if (place < text.length()) {
            failsAlone(text + " !", place, fault);
            failsAlone(text + ";;", place, fault);
        }
    }

    private static void failsAlone(String text, int place, int fault) {
        RainOrgan x = new RainOrgan();
        Check.feed(x, text);
        Check.due("organ() of '" + text + "'", x.organ(), -10 - place);
        Check.due("fault() of '" + text + "'", x.fault(), fault);
        Check.due("count(3) behind '" + text + "'", x.count(3), 0);
    }

    private static RainOrgan takes(String text, int lines) {
        RainOrgan x = new RainOrgan();
        Check.feed(x, text);
        Check.due("organ() of '" + text + "'", x.organ(), lines);
        Check.due("fault() of '" + text + "'", x.fault(), 0);
        Check.due("count(3) behind '" + text + "'", x.count(3), 0);
        return x;
    }

    private static void tape() {
        RainOrgan x = new RainOrgan();
        Check.due("fault() at first", x.fault(), 0);
        Check.due("end(0) of no bytes", x.end(0), 0);
        Check.due("end(1) of no bytes", x.end(1), Check.BAD);
        Check.due("end(-1)", x.end(-1), Check.BAD);
        for (int n = 8; n <= 320; n += 8) {
            Check.due("feed", x.feed(0x2020202020202020L), n);
        }
        Check.due("feed of the 321st byte", x.feed(0x2020202020202020L), Check.FULL);
        Check.due("count(3) of a full tape", x.count(3), 320);
        Check.due("end(313)", x.end(313), 320);
        Check.due("feed behind 313", x.feed(-1L), Check.FULL);
        Check.due("end(314)", x.end(314), Check.BAD);
        Check.due("end(313) again", x.end(313), 313);
        Check.due("end(312)", x.end(312), 313);
        Check.due("feed behind 312", x.feed(0x203b202020202020L), 320);
        Check.due("organ of blanks and ;", x.organ(), -10 - 313);
        Check.due("fault of blanks and ;", x.fault(), 2);
        Check.due("the tape is empty", x.count(3), 0);

        x = new RainOrgan();
        x.feed(0x7765617239202020L); // "wear9   "
        Check.due("end(5)", x.end(5), 8);
        x.feed(0x373b202020202020L); // "7;      "
        Check.due("bytes of both", x.count(3), 13);
        Check.due("organ() of wear97;", x.organ(), 1);
        Check.due("wear of wear97;", x.rule(6), 97);

        StringBuilder full = new StringBuilder();
        while (full.length() < 313) {
            full.append(' ');
        }
        takes(full + "wear 1;", 1);
    }

    private static void tokens() {
        takes("", 0);
        takes("     ", 0);
        takes("roof1 0;peg ground ground;", 2);
        takes("  roof  1   0  ;  peg  ground  ground  ;  ", 2);
        takes("spout1tip3;spout2join4 0;", 2);
        takes("rain1 2 3;tune255;sleep0 11 99;wear999;", 4);
        Check.due("tone 007", takes("spout 007 slate;", 1).spout(0, 0), 7);
        fails("spout 0007 slate;", 6, 1);
        fails("rain 1 1234;", 7, 1);
        fails("1234", 0, 1);
        fails("roof 1 0; 12345;", 10, 1);
        fails("roof 1000 0;", 5, 1);
        fails("Roof 1 0;", 0, 1);
        fails("roof\t1 0;", 4, 1);
        fails("roof 1,0;", 6, 1);
        fails("roof 1 0\n;", 8, 1);
        fails("roof -1 0;", 5, 1);
        fails("{", 0, 1);
        fails("`", 0, 1);
        fails("/", 0, 1);
        fails(":", 0, 1);
        fails("rain 1/", 6, 1);
        fails("rain 1:", 6, 1);
        fails("rain{", 4, 1);
        fails("rain`", 4, 1);
        fails("\0", 0, 1);
        fails("\u00e9", 0, 1);
        fails("\u00bb", 0, 1);
        fails("wear 1;\u00ff", 7, 1);
        // what stands behind a fault is not read
        fails("roof ; 1234", 5, 2);
        fails("roof 0 !", 5, 3);
    }

    private static void misplaced() {
        fails(";", 0, 2);
        fails("   7", 3, 2);
        fails("roofs 1 0;", 0, 2);
        fails("roo 1 0;", 0, 2);
        fails("roofpeg", 0, 2);
        // of each name another first sign, another last one, one more, one less
        String[] lines = {"roof 1 0;", "peg ground ground;", "spout 0 slate;", "rain 1;", "tune 1;", "sleep 0 0 1;", "wear 1;"};
        for (String line : lines) {
            int space = line.indexOf(' ');
            fails("x" + line.substring(1), 0, 2);
            fails(line.substring(0, space - 1) + "x" + line.substring(space), 0, 2);
            fails("x" + line, 0, 2);
            fails(line.substring(0, space) + "x" + line.substring(space), 0, 2);
            fails(line.substring(1), 0, 2);
            fails(line.substring(0, space - 1) + line.substring(space), 0, 2);
        }
        for (String cup : new String[] {"slate", "tip", "leak", "each", "join", "frozen"}) {
            fails("spout 0 x" + cup.substring(1) + " 1 1;", 8, 2);
            fails("spout 0 " + cup.substring(0, cup.length() - 1) + "x 1 1;", 8, 2);
            fails("spout 0 " + cup + "s 1 1;", 8, 2);
        }
        for (String way : new String[] {"gutter", "spout", "ground"}) {
            fails("peg x" + way.substring(1) + " 1;", 4, 2);
            fails("peg " + way.substring(0, way.length() - 1) + "x 1;", 4, 2);
            fails("peg " + way + "s 1;", 4, 2);
        }
        fails("ground;", 0, 2);
        fails("wear 1;gutter", 7, 2);
        fails("roof", 4, 2);
        fails("roof   ", 7, 2);
        fails("roof 1", 6, 2);
        fails("roof peg", 5, 2);
        fails("roof 1;", 6, 2);
        fails("roof 1 0", 8, 2);
        fails("roof 1 0 0;", 9, 2);
        fails("roof 1 0 peg", 9, 2);
        fails("peg", 3, 2);
        fails("peg 1", 4, 2);
        fails("peg;", 3, 2);
        fails("peg left", 4, 2);
        fails("peg gutters 1 ground", 4, 2);
        fails("peg gutter;", 10, 2);
        fails("peg gutter ground", 11, 2);
        fails("peg spout ground", 10, 2);
        fails("peg ground", 10, 2);
        fails("peg ground 1;", 11, 2);
        fails("peg ground roof;", 11, 2);
        fails("peg ground ground", 17, 2);
        fails("peg ground ground ground;", 18, 2);
        fails("spout", 5, 2);
        fails("spout;", 5, 2);
        fails("spout slate", 6, 2);
        fails("spout 1", 7, 2);
        fails("spout 1 1", 8, 2);
        fails("spout 1;", 7, 2);
        fails("spout 1 ice;", 8, 2);
        fails("spout 1 slates;", 8, 2);
        fails("spout 1 slate", 13, 2);
        fails("spout 1 slate 1;", 14, 2);
        fails("spout 1 frozen 1;", 15, 2);
        fails("spout 1 tip", 11, 2);
        fails("spout 1 leak;", 12, 2);
        fails("spout 1 each tip", 13, 2);
        fails("spout 1 tip 1 1;", 14, 2);
        fails("spout 1 join;", 12, 2);
        fails("spout 1 join 1;", 14, 2);
        fails("spout 1 join 1 1 1;", 17, 2);
        fails("rain", 4, 2);
        fails("rain;", 4, 2);
        fails("rain peg", 5, 2);
        fails("rain 1", 6, 2);
        fails("rain 1 ", 7, 2);
        fails("rain 1 rain", 7, 2);
        fails("tune", 4, 2);
        fails("tune;", 4, 2);
        fails("tune 1 2", 8, 2);
        fails("tune 1 tune", 7, 2);
        fails("sleep", 5, 2);
        fails("sleep;", 5, 2);
        fails("sleep 0;", 7, 2);
        fails("sleep 0 1;", 9, 2);
        fails("sleep 0 1 1", 11, 2);
        fails("sleep 0 1 1 1;", 12, 2);
        fails("wear", 4, 2);
        fails("wear;", 4, 2);
        fails("wear peg", 5, 2);
        fails("wear 1", 6, 2);
        fails("wear 1 1;", 7, 2);
        fails("rain 1 1 1 1 1 1 1 1 1 1 1 1", 28, 2);
        fails("rain 1 1 1 1 1 1 1 1 1 1 1 1 peg", 29, 2);
    }

    private static void bounds() {
        fails("roof 0 0;", 5, 3);
        fails("roof 10 0;", 5, 3);
        fails("roof 1 5;", 7, 3);
        fails("peg gutter 5 ground;", 11, 3);
        fails("peg gutter 0 ground;", 11, 3);
        fails("peg ground gutter 0;", 18, 3);
        fails("peg ground ground;peg ground gutter 1;", 36, 3);
        fails("peg ground ground;peg gutter 0 ground;", 29, 3);
        fails("peg ground ground;peg ground ground;peg ground ground;peg ground ground;peg gutter 4 ground;", 83, 3);
        fails("peg spout 8 ground;", 10, 3);
        fails("peg ground spout 10;", 17, 3);
        fails("spout 8 slate;", 6, 3);
        fails("spout 0 tip 0;", 12, 3);
        fails("spout 0 tip 31;", 12, 3);
        fails("spout 0 leak 0;", 13, 3);
        fails("spout 0 leak 31;", 13, 3);
        fails("spout 0 each 0;", 13, 3);
        fails("spout 0 each 31;", 13, 3);
        fails("spout 0 join 0 1;", 13, 3);
        fails("spout 0 join 31 1;", 13, 3);
        fails("spout 0 join 1 8;", 15, 3);
        fails("spout 0 join 1 0;", 15, 3);
        fails("spout 0 slate;spout 0 join 1 1;", 29, 3);
        fails("rain 10;", 5, 3);
        fails("rain 1 10;", 7, 3);
        fails("tune 256;", 5, 3);
        fails("tune 1 256;", 7, 3);
        fails("sleep 12 12 1;", 6, 3);
        fails("sleep 0 12 1;", 8, 3);
        fails("sleep 3 2 1;", 8, 3);
        fails("sleep 3 3 0;", 10, 3);
        fails("sleep 3 3 100;", 10, 3);
        // one NUMBER with two faults: the first of the list
        fails("rain 1 1 1 1 1 1 1 1 1 1 1 1 10;", 29, 3);
        takes("spout 0 tip 30;spout 7 leak 30;spout 1 each 30;spout 1 join 30 0;", 4);
        takes("spout 0 tip 1;spout 7 leak 1;spout 1 each 1;spout 1 join 1 2;", 4);
        takes("sleep 11 11 1;sleep 0 0 99;", 2);
        takes("roof 9 0;peg ground ground;rain 9;tune 255 0;wear 999;", 5);
    }

    private static void again() {
        fails("tune 1;tune 2;", 7, 4);
        fails("wear 1; wear 2;", 8, 4);
        fails("wear 0;wear 0;", 7, 4);
        fails("tune 0;tune", 7, 4);
        takes("wear 0;", 1);
    }

    private static void tooMany() {
        fails("roof 1 0;roof 1 0;roof 1 0;roof 1 0;roof", 36, 5);
        fails("peg ground ground;".repeat(5) + "peg", 90, 5);
        fails("spout 0 slate;".repeat(8) + "spout 0 slate;", 112, 5);
        fails("rain 1;".repeat(3) + " rain", 22, 5);
        fails("sleep 0 0 1;".repeat(4) + "sleep", 48, 5);
        fails("rain 1 1 1 1 1 1 1 1 1 1 1 1 1;", 29, 5);
        fails("tune 1 1 1 1 1 1 1 1 1 1 1 1 1;", 29, 5);
        takes("rain 1 1 1 1 1 1 1 1 1 1 1 1;tune 1 1 1 1 1 1 1 1 1 1 1 1;", 2);
        takes("peg ground ground;".repeat(5) + "roof 1 4;".repeat(4) + "rain 1;".repeat(3), 12);
        takes("spout 0 slate;".repeat(8) + "sleep 0 0 1;".repeat(4), 12);
    }

    private static void missing() {
        fails("roof 1 0;", 9, 6);
        fails("roof 1 0;  ", 11, 6);
        fails("roof 1 1;peg ground ground;", 27, 6);
        fails("peg gutter 1 ground;", 20, 6);
        fails("peg ground gutter 4;", 20, 6);
        fails("peg spout 0 ground;", 19, 6);
        fails("peg ground spout 7;", 19, 6);
        fails("peg spout 1 ground;spout 0 slate;", 33, 6);
        fails("spout 0 join 1 1;", 17, 6);
        fails("spout 0 slate;spout 0 join 1 2;", 31, 6);
        fails("spout 0 join 1 7;" + "spout 0 slate;".repeat(6), 101, 6);
        takes("spout 0 join 1 7;" + "spout 0 slate;".repeat(7), 8);
        takes("roof 1 0;peg gutter 1 spout 1;peg spout 0 ground;spout 0 slate;spout 1 join 2 0;", 5);
    }

    private static void taken() {
        RainOrgan x = takes("roof 3 1;peg gutter 1 spout 2;peg ground spout 0;spout 5 tip 4;spout 6 join 7 0;"
                + "spout 7 frozen;rain 1 2 3;tune 4 5;sleep 1 2 3;sleep 0 11 99;wear 8;", 11);
        Check.dues("rule", new int[] {x.rule(0), x.rule(1), x.rule(2), x.rule(3), x.rule(4), x.rule(5), x.rule(6)},
                1, 2, 3, 1, 2, 2, 8);
        x.peg(0, 0);
        x.block(1, true);
        x.rain(5);
        x.keep(0);
        x.keep(1);
        x.sheet(0, 1, 7);
        x.lay(0, 0, 12);
        Check.due("read of no rain", x.read(0, 1, 0, 1), -20);
        Check.due("read beyond", x.read(0, 1, 7, 1), 0);
        // a text in place of it: what no line tells is as at first, images are gone, sheets stay
        Check.tell(x, "roof 1 0;peg ground ground;peg ground ground;");
        Check.dues("rule", new int[] {x.rule(0), x.rule(1), x.rule(2), x.rule(3), x.rule(4), x.rule(5), x.rule(6)},
                1, 2, 0, 0, 0, 0, 0);
        Check.dues("gutters", new int[] {x.gutter(0, 2), x.gutter(0, 3), x.gutter(1, 2), x.gutter(1, 3)}, 2, 0, 2, 0);
        Check.due("count(0)", x.count(0), 0);
        Check.due("count(2)", x.count(2), 0);
        Check.due("back(0)", x.back(0), Check.STATE);
        Check.due("back(1)", x.back(1), Check.STATE);
        Check.due("count(4)", x.count(4), 7);
        Check.due("the cell stays", x.read(0, 1, 0, 1), -20);
        Check.due("torn stays", x.torn(), 2);
        Check.due("SECOND", x.water(0), 0);
        Check.due("fallen", x.water(1), 0);
        Check.due("an empty text", x.organ(), 0);
        Check.due("no roofs then", x.rule(0), 0);
        Check.due("no gutters then", x.gutter(0, 0), Check.BAD);
        // what an older text told does not come through
        Check.tell(x, "spout 1 slate;spout 1 tip 2;spout 1 tip 2;wear 2;");
        Check.tell(x, "spout 2 tip 3;spout 2 slate;spout 2 frozen;");
        Check.dues("kinds", new int[] {x.spout(0, 1), x.spout(1, 1), x.spout(2, 1)}, 1, 0, 5);
        Check.dues("n", new int[] {x.spout(0, 2), x.spout(1, 2), x.spout(2, 2)}, 3, 0, 0);
        Check.due("wear", x.rule(6), 0);
    }

    private static void refused() {
        RainOrgan x = Check.told("roof 2 0;peg spout 0 ground;spout 3 tip 5;rain 1 2;tune 7;wear 9;");
        x.peg(0, 0);
        x.rain(1);
        x.keep(1);
        Check.feed(x, "roof 5 0;roof 5 0;peg ground ground;spout 0 slate;rain 9 9 9;tune 1 2 3;sleep 0 0 1;wear 1;!");
        Check.due("organ()", x.organ(), -10 - 91);
        Check.due("fault()", x.fault(), 1);
        Check.dues("rule", new int[] {x.rule(0), x.rule(1), x.rule(2), x.rule(3), x.rule(4), x.rule(5), x.rule(6)},
                1, 1, 1, 1, 1, 0, 9);
        Check.due("way", x.gutter(0, 0), 10);
        Check.due("peg", x.gutter(0, 2), 0);
        Check.due("tone", x.spout(0, 0), 3);
        Check.due("held", x.spout(0, 4), 2);
        Check.due("SECOND", x.water(0), 1);
        Check.due("shower", x.shower(0, -1), 2);
        Check.due("tune", x.tune(0), 7);
        Check.due("images", x.count(2), 1);
        Check.due("tape", x.count(3), 0);
        Check.due("back(1)", x.back(1), 1);
        Check.due("a text that is taken", x.organ(), 0);
        Check.due("its fault", x.fault(), 0);
    }
}
