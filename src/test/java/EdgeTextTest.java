import java.util.ArrayList;
import java.util.List;

/** Boundary cases of the text: THE TAPE, its TOKENS, its grammar, its FAULTS (Terms, promises 2 to 5). */
public final class EdgeTextTest {
    /** All parts that a text may name, so that FAULT 6 is far. */
    private static final String PARTS = "peg ground ground;".repeat(5) + "spout 0 slate;".repeat(8);

    /** A text with every kind of line, way and cup, its TOKENS parted by blanks. */
    private static final String EVERY = "roof 1 0 ; peg gutter 1 spout 0 ; peg ground ground ; spout 0 slate ; spout 1 tip 2 ; "
            + "spout 2 leak 3 ; spout 3 each 4 ; spout 4 join 5 0 ; spout 5 frozen ; rain 1 2 ; tune 3 4 ; sleep 0 1 2 ; wear 9 ;";

    public static void main(String[] args) {
        feed();
        end();
        organ();
        fault();
        everyByte();
        blanks();
        figures();
        limits();
        bounds();
        waysAndJoins();
        noToken();
        misplaced();
        theEnd();
        again();
        tooMany();
        missing();
        theFirstMet();
        taken();
        Check.finish("EdgeTextTest");
    }

    private static String blanks(int many) {
        return " ".repeat(many);
    }

    private static RainOrgan takes(String text, int lines) {
        RainOrgan x = new RainOrgan();
        Check.feed(x, text);
        Check.due("organ() of '" + text + "'", x.organ(), lines);
        Check.due("fault() of '" + text + "'", x.fault(), 0);
        return x;
    }

    private static void fails(String text, int place, int fault) {
        RainOrgan x = new RainOrgan();
        Check.feed(x, text);
        Check.due("organ() of '" + text + "'", x.organ(), -10 - place);
        Check.due("fault() of '" + text + "'", x.fault(), fault);
        Check.due("count(3) behind '" + text + "'", x.count(3), 0);
    }

    private static void feed() {
        Check.says("Eight bytes come behind THE TAPE, the highest first: how many it has.");
        RainOrgan x = new RainOrgan();
        Check.due("the first eight", x.feed(0x7765617220202020L), 8);
        Check.due("eight more", x.feed(0x2020202020203132L), 16);
        Check.due("eight more", x.feed(0x333b202020202020L), 24);
        Check.due("organ()", x.organ(), 1);
        Check.due("wear 123;", x.rule(6), 123);
        x = new RainOrgan();
        Check.due("the lowest byte is the last", x.feed(0x20202020202020ffL), 8);
        Check.due("organ()", x.organ(), -17);
        Check.due("the highest byte is the first", x.feed(Long.MIN_VALUE), 8);
        Check.due("organ()", x.organ(), -10);

        Check.says("THE TAPE has 320 bytes, places from 0.");
        fails("!", 0, 1);
        fails(blanks(319) + "!", 319, 1);
        takes(blanks(312) + "wear999;", 1);

        Check.says("FULL: more than 320.");
        x = new RainOrgan();
        for (int n = 8; n <= 320; n += 8) {
            Check.due("feed", x.feed(0x2020202020202020L), n);
        }
        Check.due("feed behind 320", x.feed(0x2020202020202020L), Check.FULL);
        for (int n = 319; n >= 313; n--) {
            x.end(n);
            Check.due("feed behind " + n, x.feed(0L), Check.FULL);
            Check.due("count(3) as it was", x.count(3), n);
        }
        x.end(312);
        Check.due("feed behind 312", x.feed(0x2020202020202020L), 320);
        Check.due("what FULL refused is not there", x.organ(), 0);
        Check.due("feed behind organ()", x.feed(0L), 8);
    }

    private static void end() {
        Check.says("THE TAPE keeps its first n bytes: how many it had.");
        RainOrgan x = new RainOrgan();
        Check.due("end(0) of none", x.end(0), 0);
        Check.feed(x, "wear 123;");
        Check.due("end(all)", x.end(9), 9);
        Check.due("end(7)", x.end(7), 9);
        Check.due("end(7) again", x.end(7), 7);
        Check.feed(x, ";");
        Check.due("organ() of wear 12;", x.organ(), 1);
        Check.due("wear", x.rule(6), 12);
        Check.feed(x, "wear 5;");
        Check.due("end(0)", x.end(0), 7);
        Check.due("nothing is left", x.organ(), 0);
        Check.due("wear is told by none", x.rule(6), 0);
        for (int i = 0; i < 40; i++) {
            x.feed(0x2020202020202020L);
        }
        Check.due("end(320)", x.end(320), 320);
        Check.due("end(319)", x.end(319), 320);

        Check.says("BAD (n above that, too).");
        Check.due("end(320) of 319", x.end(320), Check.BAD);
        Check.due("end(-1)", x.end(-1), Check.BAD);
        Check.due("end(least)", x.end(Integer.MIN_VALUE), Check.BAD);
        Check.due("end(most)", x.end(Integer.MAX_VALUE), Check.BAD);
        Check.due("it has", x.count(3), 319);
        Check.due("end(1) of none", new RainOrgan().end(1), Check.BAD);
    }

    private static void organ() {
        Check.says("THE TAPE (empty then, by a FAULT, too) tells the organ: how many lines;");
        RainOrgan x = takes("", 0);
        Check.due("empty then", x.count(3), 0);
        x = takes("wear 1;", 1);
        Check.due("empty then", x.count(3), 0);
        Check.due("it may be fed anew from place 0", x.feed(0x7765617220323b20L), 8);
        Check.due("organ()", x.organ(), 1);
        Check.due("wear", x.rule(6), 2);
        Check.feed(x, "wear 3; !");
        Check.due("organ() by a FAULT", x.organ(), -18);
        Check.due("empty then", x.count(3), 0);
        Check.due("end(1)", x.end(1), Check.BAD);
        String most = "roof1 4;".repeat(4) + "peg ground ground;".repeat(5) + "spout0slate;".repeat(8) + "rain1;".repeat(3)
                + "tune1;" + "sleep0 0 1;".repeat(4) + "wear1;";
        takes(most, 26);

        Check.says("organ: { line }");
        takes(" ", 0);
        takes("wear 1;", 1);
        fails("wear 1;;", 7, 2);
        Check.says("rain N { N } ; | tune N { N } ;");
        fails("rain;", 4, 2);
        fails("tune ;", 5, 2);
        Check.dues("one SECOND each", new int[] {takes("rain 1;", 1).shower(0, -1), takes("tune 1;", 1).rule(4)}, 1, 1);
        Check.dues("twelve SECONDS each", new int[] {takes("rain" + " 1".repeat(12) + ";", 1).shower(0, -1),
            takes("tune" + " 1".repeat(12) + ";", 1).rule(4)}, 12, 12);

        Check.says("-10 less the place of its FAULT: that which was told stays.");
        fails("!", 0, 1);
        fails(blanks(319) + "!", 319, 1);
        fails(blanks(316) + "wear", 320, 2);
        fails(blanks(311) + "roof 1 0;", 320, 6);
        x = takes("wear 7;", 1);
        Check.feed(x, "wear 8;;");
        Check.due("organ() by a FAULT", x.organ(), -17);
        Check.due("that which was told stays", x.rule(6), 7);
    }

    private static void fault() {
        Check.says("The FAULT of the latest organ(); 0.");
        RainOrgan x = new RainOrgan();
        Check.due("none yet", x.fault(), 0);
        String[] texts = {"!", ";", "wear 1000;", "wear 999;wear", "rain 1;rain 1;rain 1;rain", "roof 1 0;", "tune 256;"};
        int[] faults = {1, 2, 1, 4, 5, 6, 3};
        for (int i = 0; i < texts.length; i++) {
            Check.feed(x, texts[i]);
            Check.due("fault() stays until organ()", x.fault(), i == 0 ? 0 : faults[i - 1]);
            x.organ();
            Check.due("fault() of " + texts[i], x.fault(), faults[i]);
            Check.due("asked again", x.fault(), faults[i]);
        }
        x.organ();
        Check.due("fault() of a text that is taken", x.fault(), 0);
    }

    private static boolean isLetter(int b) {
        return b >= 'a' && b <= 'z';
    }

    private static boolean isFigure(int b) {
        return b >= '0' && b <= '9';
    }

    private static void everyByte() {
        Check.says("NAMES (a .. z), NUMBERS (1 to 3 figures), the sign ; (every other byte is no TOKEN).");
        for (int b = 0; b < 256; b++) {
            String sign = String.valueOf((char) b);
            boolean token = isLetter(b) || isFigure(b) || b == ';';
            if (b == ' ') {
                takes(sign, 0);
                takes("wear" + sign + "5;", 1);
                takes("wear 5" + sign + ";", 1);
                takes("wear 5;" + sign, 1);
            } else {
                fails(sign, 0, token ? 2 : 1);
                fails("wear 5;" + sign, 7, token ? 2 : 1);
                if (isFigure(b)) {
                    takes("wear" + sign + "5;", 1);
                    takes("wear 5" + sign + ";", 1);
                } else {
                    fails("wear" + sign + "5;", isLetter(b) ? 0 : 4, token ? 2 : 1);
                    if (b != ';') {
                        fails("wear 5" + sign + ";", 6, token ? 2 : 1);
                    }
                }
            }
        }
    }

    private static void blanks() {
        Check.says("TOKENS, each as long as may be,");
        fails("roofs 1 0;", 0, 2);
        fails("wearwear 1;", 0, 2);
        fails("spout 0 tipp 1;", 8, 2);
        fails("tune 256;", 5, 3);
        fails("tune 2550;", 5, 1);
        fails("a".repeat(320), 0, 2);
        Check.due("wear 123", takes("wear 123;", 1).rule(6), 123);

        Check.says("any number of blanks (32) ahead of, between, behind them");
        takes(blanks(1), 0);
        takes(blanks(320), 0);
        takes(blanks(313) + "wear 1;", 1);
        takes("wear 1;" + blanks(313), 1);
        Check.due("wear", takes("wear" + blanks(150) + "1" + blanks(150) + ";", 1).rule(6), 1);
        takes("wear  1  ;  tune  1  2  ;  ", 2);

        Check.says("(one at least between two NAMES, between two NUMBERS; else none is needed)");
        takes("roof1 0;peg spout0spout1;spout0tip1;spout1join1 0;rain1 2;tune3 4;sleep0 1 2;wear5;", 8);
        takes("peg ground ground;", 1);
        fails("pegground ground;", 0, 2);
        fails("peg groundground;", 4, 2);
        fails("peg groundspout 0;", 4, 2);
        fails("peg ground groundspout", 11, 2);
        fails("roof 10;", 5, 3);
        fails("rain 11;", 5, 3);
        Check.due("two NUMBERS without a blank are one", takes("tune 12 3;", 1).tune(0), 12);
        Check.due("two NUMBERS with a blank", takes("tune 1 23;", 1).tune(0), 1);
    }

    private static void figures() {
        Check.says("NUMBERS (1 to 3 figures)");
        Check.due("wear", takes("wear 7;", 1).rule(6), 7);
        Check.due("wear", takes("wear 07;", 1).rule(6), 7);
        Check.due("wear", takes("wear 007;", 1).rule(6), 7);
        Check.due("wear", takes("wear 000;", 1).rule(6), 0);
        Check.due("wear", takes("wear 999;", 1).rule(6), 999);
        Check.due("wear", takes("wear 100;", 1).rule(6), 100);
    }

    private static void noToken() {
        Check.says("1 no TOKEN, a NUMBER that is too long (its first byte).");
        fails("wear 0007;", 5, 1);
        fails("wear 1000;", 5, 1);
        fails("wear " + "0".repeat(315), 5, 1);
        fails("0".repeat(320), 0, 1);
        // wherever it stands, also where no NUMBER may stand
        fails("1234", 0, 1);
        fails("wear 1;  1234", 9, 1);
        fails("peg 1234", 4, 1);
        fails("peg ground 1234", 11, 1);
        fails("peg ground ground 1234", 18, 1);
        fails("spout 0 1234", 8, 1);
        fails("roof 1 0 1234", 9, 1);
        fails("rain 1 1 1 1 1 1 1 1 1 1 1 1 1234;", 29, 1);
        fails("tune 1 1 1 1 1 1 1 1 1 1 1 1 1234;", 29, 1);
        // the byte itself, wherever it stands
        String[] tokens = EVERY.split(" ");
        for (int i = 0; i <= tokens.length; i++) {
            String ahead = join(tokens, i);
            fails(ahead + "!", ahead.length(), 1);
            fails(ahead + "1234", ahead.length(), 1);
            fails(ahead + "\u00a0", ahead.length(), 1);
        }
    }

    /** The first TOKENS, with a blank behind each. */
    private static String join(String[] tokens, int many) {
        StringBuilder text = new StringBuilder();
        for (int i = 0; i < many; i++) {
            text.append(tokens[i]).append(' ');
        }
        return text.toString();
    }

    /** The place of each TOKEN where its row may end or go on: NUMBER and sign both may stand there. */
    private static boolean inRow(String[] tokens, int i) {
        int name = i;
        while (name >= 0 && isFigure(tokens[name].charAt(0)) || name == i && tokens[i].equals(";")) {
            name--;
        }
        return i - name > 1 && (tokens[name].equals("rain") || tokens[name].equals("tune"));
    }

    private static void misplaced() {
        Check.says("2 a TOKEN that can not stand there (a NAME that begins no line, is no way, no cup;");
        takes(EVERY, 13);
        String[] tokens = EVERY.split(" ");
        for (int i = 0; i < tokens.length; i++) {
            String ahead = join(tokens, i);
            String behind = i + 1 < tokens.length ? " " + String.join(" ", List.of(tokens).subList(i + 1, tokens.length)) : "";
            fails(ahead + "zz" + behind, ahead.length(), 2);
            if (!tokens[i].equals(";") && !inRow(tokens, i)) {
                fails(ahead + ";" + behind, ahead.length(), 2);
            }
            if (!isFigure(tokens[i].charAt(0)) && !inRow(tokens, i)) {
                fails(ahead + "1" + behind, ahead.length(), 2);
            }
        }
        List<String> begins = List.of("roof", "peg", "spout", "rain", "tune", "sleep", "wear");
        List<String> ways = List.of("gutter", "spout", "ground");
        List<String> cups = List.of("slate", "tip", "leak", "each", "join", "frozen");
        List<String> names = new ArrayList<>(begins);
        names.addAll(ways);
        names.addAll(cups);
        for (String name : names) {
            if (!begins.contains(name)) {
                fails(name + " 1 1;", 0, 2);
                fails("wear 1;" + name + " 1 1;", 7, 2);
            }
            if (!ways.contains(name)) {
                fails("peg " + name + " 1;", 4, 2);
                fails("peg ground " + name + " 1;", 11, 2);
            }
            if (!cups.contains(name)) {
                fails("spout 0 " + name + " 1;", 8, 2);
            }
            String[] nears = {name.substring(1), name.substring(0, name.length() - 1), name + "s", "s" + name,
                "x" + name.substring(1), name.substring(0, name.length() - 1) + "x"};
            for (String near : nears) {
                fails(near, 0, 2);
                fails("peg " + near, 4, 2);
                fails("spout 0 " + near, 8, 2);
            }
        }
    }

    private static void theEnd() {
        Check.says("or the end: the length)");
        String[] tokens = EVERY.split(" ");
        for (int i = 1; i < tokens.length; i++) {
            if (!tokens[i - 1].equals(";")) {
                String ahead = join(tokens, i);
                fails(ahead, ahead.length(), 2);
                fails(ahead.substring(0, ahead.length() - 1), ahead.length() - 1, 2);
                fails(ahead + blanks(9), ahead.length() + 9, 2);
            }
        }
        fails("wear 1;wear" + blanks(309), 7, 4);
        fails("wear" + blanks(316), 320, 2);
    }

    private static void limits() {
        Check.says("ROOFS (4 at most): AREA (1 to 9), the GUTTER it leads to. GUTTERS (5 at most)");
        RainOrgan x = takes("roof9 4;".repeat(4) + "peg ground ground;".repeat(5), 9);
        Check.dues("ROOFS, GUTTERS", new int[] {x.rule(0), x.rule(1)}, 4, 5);
        Check.due("rain(9)", x.rain(9), 0);
        Check.due("4 times 9 times 9 drops", x.water(1), 324);

        Check.says("to a GUTTER of a greater number, a SPOUT, the ground; its PEG is 0 (LEFT), 1 (RIGHT), 2 (both; at first);");
        x = takes("peg gutter 4 gutter 1;peg gutter 2 gutter 4;peg gutter 3 gutter 4;peg gutter 4 ground;peg spout 7 spout 0;"
                + "spout0slate;".repeat(8), 13);
        Check.dues("LEFT", new int[] {x.gutter(0, 0), x.gutter(1, 0), x.gutter(2, 0), x.gutter(3, 0), x.gutter(4, 0)},
                4, 2, 3, 4, 17);
        Check.dues("RIGHT", new int[] {x.gutter(0, 1), x.gutter(1, 1), x.gutter(2, 1), x.gutter(3, 1), x.gutter(4, 1)},
                1, 4, 4, 20, 10);
        for (int g = 0; g < 5; g++) {
            Check.due("PEG at first", x.gutter(g, 2), 2);
        }

        Check.says("it can be BLOCKED (not at first). SPOUTS (8 at most): a TONE (0 to 7), a CUP of a KIND.");
        for (int g = 0; g < 5; g++) {
            Check.due("BLOCKED at first", x.gutter(g, 3), 0);
        }
        x = takes("spout0slate;spout7frozen;" + "spout3tip1;".repeat(6), 8);
        Check.dues("SPOUTS", new int[] {x.rule(2), x.spout(0, 0), x.spout(1, 0), x.spout(7, 0)}, 8, 0, 7, 3);

        Check.says("SHOWERS (3 at most): 1 to 12 SECONDS of rain (0 to 9 each).");
        x = takes("rain 0;rain 9 9 9 9 9 9 9 9 9 9 9 9;rain 0 9;", 3);
        Check.dues("SECONDS", new int[] {x.rule(3), x.shower(0, -1), x.shower(1, -1), x.shower(2, -1)}, 3, 1, 12, 2);
        Check.dues("rain", new int[] {x.shower(0, 0), x.shower(1, 11), x.shower(2, 1)}, 0, 9, 9);

        Check.says("THE TUNE: up to 12 SECONDS of TONES as bits (0 to 255; none at first).");
        Check.due("none at first", new RainOrgan().rule(4), 0);
        Check.due("none at first", takes("wear 1;", 1).rule(4), 0);
        x = takes("tune 0 255 0 255 0 255 0 255 0 255 0 254;", 1);
        Check.dues("THE TUNE", new int[] {x.rule(4), x.tune(0), x.tune(1), x.tune(11)}, 12, 0, 255, 254);
        Check.due("one SECOND", takes("tune 0;", 1).rule(4), 1);

        Check.says("SLEEPERS (4 at most): from a SECOND to another one (0 to 11), LOUD (1 to 99).");
        Check.due("SLEEPERS", takes("sleep 0 11 1;sleep 11 11 99;sleep 0 0 99;sleep 5 6 1;", 4).rule(5), 4);

        Check.says("WEAR (0: none; 1 to 999; 0).");
        Check.due("0 at first", new RainOrgan().rule(6), 0);
        Check.due("0 where no line tells it", takes("rain 1;", 1).rule(6), 0);
        Check.due("0", takes("wear 0;", 1).rule(6), 0);
        Check.due("1", takes("wear 1;", 1).rule(6), 1);
        Check.due("999", takes("wear 999;", 1).rule(6), 999);
    }

    /** The NUMBER between ahead and behind may be least to most; what is beside that has FAULT 3, at its own place. */
    private static void number(String ahead, int least, int most, String behind) {
        for (int n : new int[] {least, most}) {
            RainOrgan x = new RainOrgan();
            Check.feed(x, ahead + n + behind);
            Check.due("organ() of '" + ahead + n + behind + "' is a FAULT", x.organ() < 0 ? 1 : 0, 0);
        }
        for (int n : new int[] {least - 1, most + 1, 999}) {
            if (n >= 0 && n <= 999 && (n < least || n > most)) {
                fails(ahead + n + behind, ahead.length(), 3);
                fails(ahead + n + "!", ahead.length(), 3);
                fails(ahead + n, ahead.length(), 3);
            }
        }
    }

    private static void bounds() {
        Check.says("3 a NUMBER out of its bounds;");
        fails("roof 0 0;", 5, 3);
        fails("peg ground ground;roof 9 5;", 25, 3);
        fails("   tune    256   ;", 11, 3);
        String gutters = "peg ground ground;".repeat(4);
        String spouts = "spout 0 slate;".repeat(7);
        Check.says("roof: AREA, GUTTER (0 to 4).");
        number("roof ", 1, 9, " 0;" + PARTS);
        number("roof 1 ", 0, 4, ";" + PARTS);
        Check.says("peg: the next GUTTER; gutter N: 0 to 4, spout N: 0 to 7.");
        number("peg gutter ", 1, 4, " ground;" + gutters);
        number("peg ground gutter ", 1, 4, ";" + gutters);
        number("peg spout ", 0, 7, " ground;spout 0 slate;" + spouts);
        number("peg ground spout ", 0, 7, ";spout 0 slate;" + spouts);
        Check.says("spout: the next one: TONE, cup (join: n, the SPOUT, 0 to 7).");
        number("spout ", 0, 7, " slate;");
        number("spout 0 slate;spout ", 0, 7, " frozen;");
        number("spout 0 join 1 ", 1, 7, ";" + spouts);
        number(spouts + "spout 0 join 1 ", 0, 6, ";");
        Check.says("(tip, each of n, leak: n 1 to 30; join: also another SPOUT)");
        number("spout 0 tip ", 1, 30, ";");
        number("spout 0 leak ", 1, 30, ";");
        number("spout 0 each ", 1, 30, ";");
        number("spout 0 join ", 1, 30, " 1;spout 0 slate;");
        Check.says("SHOWERS (3 at most): 1 to 12 SECONDS of rain (0 to 9 each)");
        number("rain ", 0, 9, ";");
        number("rain 1 ", 0, 9, ";");
        number("rain 1 1 1 1 1 1 1 1 1 1 1 ", 0, 9, ";");
        Check.says("up to 12 SECONDS of TONES as bits (0 to 255;");
        number("tune ", 0, 255, ";");
        number("tune 1 ", 0, 255, ";");
        number("tune 1 1 1 1 1 1 1 1 1 1 1 ", 0, 255, ";");
        Check.says("sleep: from, to (no less), LOUD.");
        number("sleep ", 0, 11, " 11 1;");
        for (int from = 0; from < 12; from++) {
            number("sleep " + from + " ", from, 11, " 1;");
        }
        number("sleep 0 0 ", 1, 99, ";");
        Check.says("WEAR (0: none; 1 to 999; 0)");
        number("wear ", 0, 999, ";");
        fails("wear 1000;", 5, 1);
    }

    private static void waysAndJoins() {
        Check.says("gutter N no greater than that GUTTER itself, join to itself (it).");
        for (int g = 0; g < 5; g++) {
            String ahead = "peg ground ground;".repeat(g);
            String behind = "peg ground ground;".repeat(4 - g);
            for (int n = 0; n < 5; n++) {
                String left = ahead + "peg gutter ";
                String right = ahead + "peg spout 0 gutter ";
                if (n > g) {
                    takes(left + n + " ground;" + behind, 5);
                    takes(right + n + ";" + behind + "spout 0 slate;", 6);
                } else {
                    fails(left + n + " ground;" + behind, left.length(), 3);
                    fails(right + n + ";" + behind, right.length(), 3);
                }
            }
        }
        for (int s = 0; s < 8; s++) {
            String ahead = "spout 0 slate;".repeat(s) + "spout 0 join 1 ";
            String behind = ";" + "spout 0 slate;".repeat(7 - s);
            for (int n = 0; n < 8; n++) {
                if (n != s) {
                    Check.due("the other SPOUT", takes(ahead + n + behind, 8).spout(s, 3), n);
                } else {
                    fails(ahead + n + behind, ahead.length(), 3);
                }
            }
        }
    }

    private static void again() {
        Check.says("4 tune, wear for the second time (its NAME).");
        fails("tune 1;tune 2;", 7, 4);
        fails("tune 0;tune 0;", 7, 4);
        fails("tune 0;  tune", 9, 4);
        fails("tune 0;tune !", 7, 4);
        fails("tune 0;tune 999;", 7, 4);
        fails("wear 1;wear 2;", 7, 4);
        fails("wear 0;wear 0;", 7, 4);
        fails("wear 0;wear", 7, 4);
        fails("wear 0;wear;", 7, 4);
        fails("wear 0;rain 1;tune 1;wear", 21, 4);
        fails("tune 1;rain 1;wear 1;tune", 21, 4);
        RainOrgan x = takes("tune 1;wear 1;", 2);
        Check.feed(x, "wear 2;tune 2;");
        Check.due("in another text it is the first time", x.organ(), 2);
    }

    private static void tooMany() {
        Check.says("5 the 5th roof, the 6th peg, the 9th spout, the 4th rain, the 5th sleep (its NAME)");
        String[] lines = {"roof1 0;", "peg ground ground;", "spout0slate;", "rain1;", "sleep0 0 1;"};
        String[] names = {"roof", "peg", "spout", "rain", "sleep"};
        int[] most = {4, 5, 8, 3, 4};
        for (int i = 0; i < lines.length; i++) {
            String ahead = (i == 0 ? "peg ground ground;" : "") + lines[i].repeat(most[i]);
            takes(ahead, most[i] + (i == 0 ? 1 : 0));
            fails(ahead + lines[i], ahead.length(), 5);
            fails(ahead + names[i], ahead.length(), 5);
            fails(ahead + "  " + names[i] + "!", ahead.length() + 2, 5);
            fails(ahead + names[i] + ";", ahead.length(), 5);
            fails(ahead + "wear1;" + names[i], ahead.length() + 6, 5);
            fails(ahead + names[i] + "s", ahead.length(), 2);
        }

        Check.says("the 13th SECOND (it).");
        for (String row : new String[] {"rain", "rain 1;rain", "rain 1;rain 1;rain", "tune"}) {
            String twelve = row + " 1".repeat(12);
            takes(twelve + ";", row.split(";").length);
            fails(twelve + " 1;", twelve.length() + 1, 5);
            fails(twelve + " 0", twelve.length() + 1, 5);
            fails(twelve + "   9!", twelve.length() + 3, 5);
            fails(twelve + " 1 1234", twelve.length() + 1, 5);
            fails(twelve, twelve.length(), 2);
            fails(twelve + " peg", twelve.length() + 1, 2);
        }
    }

    private static void missing() {
        Check.says("Behind all (the length): 6 a GUTTER, a SPOUT that there is not.");
        for (int many = 0; many < 5; many++) {
            String pegs = "peg ground ground;".repeat(many);
            for (int g = 0; g < 5; g++) {
                String text = "roof 1 " + g + ";" + pegs;
                if (g < many) {
                    takes(text, many + 1);
                } else {
                    fails(text, text.length(), 6);
                    fails(text + "   ", text.length() + 3, 6);
                }
            }
        }
        for (int many = 1; many < 5; many++) {
            String pegs = "peg ground ground;".repeat(many - 1);
            for (int g = 1; g < 5; g++) {
                String left = "peg gutter " + g + " ground;" + pegs;
                String right = "peg ground gutter " + g + ";" + pegs;
                if (g < many) {
                    takes(left, many);
                    takes(right, many);
                } else {
                    fails(left, left.length(), 6);
                    fails(right, right.length(), 6);
                }
            }
        }
        for (int many = 0; many < 8; many++) {
            String spouts = "spout 0 slate;".repeat(many);
            for (int s = 0; s < 8; s++) {
                String left = "peg spout " + s + " ground;" + spouts;
                String right = spouts + "peg ground spout " + s + ";";
                String joined = spouts + "spout 0 join 1 " + s + ";";
                if (s < many) {
                    takes(left, many + 1);
                    takes(right, many + 1);
                    takes(joined, many + 1);
                } else {
                    fails(left, left.length(), 6);
                    fails(right, right.length(), 6);
                    fails(joined, s == many ? joined.length() - 2 : joined.length(), s == many ? 3 : 6);
                }
            }
        }
        takes(PARTS + "roof 1 4;", 14);
    }

    private static void theFirstMet() {
        Check.says("FAULTS, the first met as it is read (a TOKEN is read when the one before has been taken)");
        // 6 is behind all: every other one comes first
        fails("roof 1 0;!", 9, 1);
        fails("roof 1 0;zz", 9, 2);
        fails("roof 1 0;roof 0", 14, 3);
        fails("roof 1 0;wear 1;wear", 16, 4);
        fails("roof 1 0;".repeat(4) + "roof", 36, 5);
        // what stands behind the first is not read
        fails("wear 1;wear !", 7, 4);
        fails("rain 10 1234;", 5, 3);
        fails("rain ; !", 5, 2);
        fails("peg gutter 0 !", 11, 3);
        fails("spout 0 join 1 0 !", 15, 3);
        fails("sleep 3 2 0;", 8, 3);
        fails("roof 0 5;", 5, 3);
        fails("zz !", 0, 2);
        fails("zz 1234", 0, 2);
        // and what stands ahead of it is: a text is not taken by halves
        RainOrgan x = new RainOrgan();
        Check.feed(x, "wear 5;rain 1;tune 1;!");
        x.organ();
        Check.dues("nothing of it was taken", new int[] {x.rule(3), x.rule(4), x.rule(6)}, 0, 0, 0);
        // one NUMBER that is both out of its bounds and the 13th: the first of the list
        fails("rain 1 1 1 1 1 1 1 1 1 1 1 1 10;", 29, 3);
    }

    private static void taken() {
        Check.says("A text that is taken tells all, in place of what there was (what no line tells is as at first);");
        Twins.same("an empty text", () -> retold(""), () -> leftOver(new RainOrgan()));
        String text = "roof 2 0;peg spout 0 ground;peg ground ground;spout 1 tip 2;spout 2 slate;rain 1 2;tune 7;";
        Twins.same("another text", () -> retold(text), () -> leftOver(Check.told(text)));
        RainOrgan x = retold(text);
        Check.dues("PEGS", new int[] {x.gutter(0, 2), x.gutter(1, 2), x.gutter(2, 2)}, 2, 2, Check.BAD);
        Check.dues("BLOCKS", new int[] {x.gutter(0, 3), x.gutter(1, 3), x.count(0)}, 0, 0, 0);
        Check.dues("SLEEPERS, WEAR", new int[] {x.rule(5), x.rule(6)}, 0, 0);

        Check.says("by hand all is as behind dry(); IMAGES are gone; SHEETS stay.");
        Check.dues("by hand", new int[] {x.water(0), x.water(1), x.water(2), x.water(3), x.water(4), x.water(5)},
                0, 0, 0, 0, 0, 0);
        Check.dues("loud", new int[] {x.loud(0), x.loud(1)}, 0, 0);
        Check.due("IMAGES", x.count(2), 0);
        Check.due("back(0)", x.back(0), Check.STATE);
        Check.due("back(1)", x.back(1), Check.STATE);
        Check.due("CELLS of SHEET 0", x.count(4), 5);
        Check.due("torn()", x.torn(), 2);
        Check.due("CELLS are as they were", x.read(0, 0, 0, 5), 5);
        Check.due("SHEET 1, too", x.read(1, 1, 1, 1), -20);
        Check.due("keep(0) is the first again", x.keep(0), 0);
    }

    /** An object that had all, and was told another text. */
    private static RainOrgan retold(String text) {
        RainOrgan x = Twins.busy();
        x.keep(1);
        x.end(0);
        Check.tell(x, text);
        return x;
    }

    /** Gives an object the sheets (and what torn() tells) that a busy one has. */
    private static RainOrgan leftOver(RainOrgan x) {
        x.sheet(0, 0, 5);
        x.sheet(1, 1, 3);
        x.sheet(2, 2, 0);
        for (int i = 0; i < 5; i++) {
            x.lay(0, i, i + 1);
        }
        x.lay(1, 1, 10);
        x.read(0, 0, 5, 1);
        return x;
    }
}
