import java.nio.charset.StandardCharsets;
import java.util.ArrayList;
import java.util.List;
import java.util.Random;

/** Runs of calls by a fixed seed, each answer compared with the model's. */
public final class RandomRunsTest {
    private static final int RUNS = Integer.getInteger("runs", 700);
    private static final int CALLS = 120;
    private static final String[] WORDS = {"roof", "peg", "spout", "rain", "tune", "sleep", "wear", "gutter", "ground",
        "slate", "tip", "leak", "each", "join", "frozen", ";", ";", "0", "1", "3", "4", "5", "8", "9", "12", "31", "255",
        "256", "999", "1000", "!", " ", "A", "\u00e9", "x"};

    private final Random random;
    private final RainOrgan x = new RainOrgan();
    private final Model model = new Model();
    private final List<String> log = new ArrayList<>();

    private RandomRunsTest(long seed) {
        random = new Random(seed);
    }

    public static void main(String[] args) {
        for (int run = 0; run < RUNS; run++) {
            if (!new RandomRunsTest(run * 7919L + Integer.getInteger("seed", 1)).run()) {
                Check.due("run " + run, 0, 1);
                break;
            }
            Check.due("run " + run, 1, 1);
        }
        Check.finish("RandomRunsTest");
    }

    private boolean run() {
        try {
            text(random.nextInt(4) > 0);
            for (int i = 0; i < CALLS; i++) {
                step();
            }
            everything();
            return true;
        } catch (IllegalStateException e) {
            log.forEach(System.out::println);
            System.out.println(e.getMessage());
            return false;
        }
    }

    private int same(String call, int got, int want) {
        log.add(call + " = " + got);
        if (got != want) {
            throw new IllegalStateException(call + " answered " + got + ", the model says " + want);
        }
        return got;
    }

    private int upTo(int n) {
        return random.nextInt(n + 1);
    }

    /** Mostly one of the numbers that there are, now and then one beside them. */
    private int near(int many) {
        int r = random.nextInt(20);
        if (r == 0) {
            return -1 - random.nextInt(2);
        }
        if (r == 1) {
            return many + random.nextInt(2);
        }
        if (r == 2 && random.nextInt(4) == 0) {
            return random.nextInt();
        }
        return many > 0 ? random.nextInt(many) : 0;
    }

    private String way(int g, int gutters, int spouts) {
        int r = random.nextInt(5);
        if (r < 2 && g + 1 < gutters) {
            return "gutter " + (g + 1 + random.nextInt(gutters - g - 1));
        }
        return r == 4 || spouts == 0 ? "ground" : "spout " + random.nextInt(spouts);
    }

    private String goodText() {
        int gutters = upTo(5);
        int spouts = upTo(8);
        List<String> lines = new ArrayList<>();
        for (int i = gutters == 0 ? 0 : 1 + upTo(3); i > 0; i--) {
            lines.add("roof " + (1 + upTo(random.nextInt(3) == 0 ? 8 : 2)) + " " + random.nextInt(Math.max(1, gutters)));
        }
        for (int g = 0; g < gutters; g++) {
            lines.add("peg " + way(g, gutters, spouts) + " " + way(g, gutters, spouts));
        }
        for (int s = 0; s < spouts; s++) {
            lines.add("spout " + (random.nextBoolean() ? s : upTo(7)) + " " + cupText(s, spouts));
        }
        for (int w = upTo(3); w > 0; w--) {
            lines.add("rain" + row(1 + upTo(random.nextBoolean() ? 4 : 11), 9));
        }
        if (random.nextInt(3) == 0) {
            lines.add("tune" + row(1 + upTo(random.nextBoolean() ? 2 : 11), 255));
        }
        for (int p = upTo(random.nextBoolean() ? 4 : 1); p > 0; p--) {
            int from = upTo(random.nextBoolean() ? 11 : 3);
            lines.add("sleep " + from + " " + (from + upTo(11 - from)) + " " + (1 + upTo(random.nextBoolean() ? 5 : 98)));
        }
        if (random.nextBoolean()) {
            lines.add("wear " + upTo(random.nextBoolean() ? 30 : 999));
        }
        if (random.nextInt(5) == 0) {
            java.util.Collections.shuffle(lines, random);
        }
        StringBuilder text = new StringBuilder();
        for (String line : lines) {
            if (text.length() + line.length() < 300) {
                text.append(line).append(random.nextInt(9) == 0 ? " ; " : ";");
            }
        }
        return text.toString();
    }

    private String cupText(int s, int spouts) {
        int n = 1 + upTo(random.nextInt(4) == 0 ? 29 : 5);
        switch (random.nextInt(7)) {
            case 0: return "tip " + n;
            case 1: return "leak " + n;
            case 2: return "each " + n;
            case 3:
            case 4: return spouts > 1 ? "join " + n + " " + (s + 1 + random.nextInt(spouts - 1)) % spouts : "slate";
            case 5: return random.nextBoolean() ? "frozen" : "slate";
            default: return "slate";
        }
    }

    private String row(int many, int most) {
        StringBuilder row = new StringBuilder();
        for (int i = 0; i < many; i++) {
            row.append(' ').append(upTo(random.nextBoolean() ? Math.min(3, most) : most));
        }
        return row.toString();
    }

    private String spoiled(String good) {
        StringBuilder text = new StringBuilder(good);
        for (int i = random.nextInt(3); i >= 0; i--) {
            int at = upTo(text.length());
            String word = WORDS[random.nextInt(WORDS.length)];
            switch (random.nextInt(4)) {
                case 0: text.insert(at, " " + word + " "); break;
                case 1: text.insert(at, word); break;
                case 2: text.delete(at, Math.min(text.length(), at + 1 + random.nextInt(4))); break;
                default: text.replace(at, Math.min(text.length(), at + 1), word); break;
            }
        }
        if (random.nextInt(6) == 0) {
            text.setLength(upTo(text.length()));
        }
        return text.toString();
    }

    private void text(boolean good) {
        String text = good ? goodText() : spoiled(goodText());
        byte[] bytes = text.getBytes(StandardCharsets.ISO_8859_1);
        log.add("text: " + text);
        same("end(0)", x.end(0), model.end(0));
        for (int at = 0; at < bytes.length; at += 8) {
            long v = 0;
            for (int i = at; i < at + 8; i++) {
                v = v << 8 | (i < bytes.length ? bytes[i] & 255 : random.nextInt(256));
            }
            same("feed(" + v + ")", x.feed(v), model.feed(v));
        }
        int n = Math.min(bytes.length, x.count(3));
        same("end(" + n + ")", x.end(n), model.end(n));
        same("organ()", x.organ(), model.organ());
        same("fault()", x.fault(), model.fault());
    }

    /** The tune becomes what a shower plays with something blocked, frozen, turned: so that searches find it. */
    private void record() {
        int w = random.nextInt(3);
        if (random.nextInt(3) == 0) {
            text(true);
        }
        if (random.nextBoolean()) {
            int n = 1 + random.nextInt(5);
            int seed = random.nextInt();
            same("draws " + w + " " + n + " 4 " + seed, x.draws(w, n, 4, seed), model.draws(w, n, 4, seed));
        }
        int g = random.nextInt(5);
        int how = random.nextInt(3);
        boolean was = x.gutter(g, 3) == 1;
        int pegs = x.settings(0);
        x.settings(pegs);
        if (how == 0) {
            x.block(g, true);
        } else if (how == 1) {
            x.settings(near((int) Math.pow(3, x.rule(1))));
        }
        int[] tones = new int[Math.max(0, x.shower(w, -1))];
        for (int i = 0; i < tones.length; i++) {
            tones[i] = x.plays(w, i);
        }
        if (how == 0) {
            x.block(g, was);
        } else if (how == 1) {
            x.settings(pegs);
        }
        for (int i = 0; i < tones.length; i++) {
            same("tells(" + i + ", " + tones[i] + ")", x.tells(i, tones[i]), model.tells(i, tones[i]));
        }
        searches(w);
    }

    private void searches(int w) {
        same("far", x.far(w), model.far(w));
        same("blocked", x.blocked(w), model.blocked(w));
        same("frozen", x.frozen(w), model.frozen(w));
        if (random.nextInt(4) == 0) {
            same("heard(0)", x.heard(0), model.heard(0));
            same("heard(1)", x.heard(1), model.heard(1));
        }
        int what = random.nextInt(3);
        same("best(" + w + ", " + what + ")", x.best(w, what), model.best(w, what));
        same("fewest(" + w + ", " + what + ")", x.fewest(w, what), model.fewest(w, what));
    }

    private void step() {
        int r = random.nextInt(100);
        if (r < 1) {
            text(random.nextBoolean());
        } else if (r < 3) {
            record();
        } else if (r < 35) {
            hand();
        } else if (r < 55) {
            parts();
        } else if (r < 75) {
            showers();
        } else if (r < 78) {
            settings();
        } else {
            sheets();
        }
    }

    private void hand() {
        int v = random.nextInt(30) == 0 ? near(10) : upTo(random.nextBoolean() ? 3 : 9);
        same("rain(" + v + ")", x.rain(v), model.rain(v));
        for (int what = 0; what < 6; what++) {
            same("water(" + what + ")", x.water(what), model.water(what));
        }
        for (int s = 0; s < 9; s++) {
            same("loud(" + s + ")", x.loud(s), model.loud(s));
        }
        if (random.nextInt(40) == 0) {
            same("dry()", x.dry(), model.dry());
        }
    }

    private void parts() {
        int g = near(x.rule(1));
        int s = near(x.rule(2));
        int k = near(2);
        int v = near(3);
        boolean is = random.nextInt(3) == 0;
        int kind = random.nextInt(4) > 0 ? random.nextBoolean() ? 0 : 5 : near(6);
        switch (random.nextInt(9)) {
            case 0: same("peg(" + g + ", " + v + ")", x.peg(g, v), model.peg(g, v)); break;
            case 1: same("block(" + g + ", " + is + ")", x.block(g, is), model.block(g, is)); break;
            case 2:
                if (random.nextInt(3) == 0) {
                    same("cup(" + s + ", " + kind + ")", x.cup(s, kind), model.cup(s, kind));
                }
                break;
            case 3:
                int number = near((int) Math.pow(3, x.rule(1)));
                same("settings(" + number + ")", x.settings(number), model.settings(number));
                break;
            case 4: same("keep(" + k + ")", x.keep(k), model.keep(k)); break;
            case 5: same("back(" + k + ")", x.back(k), model.back(k)); break;
            default: everySpout(); break;
        }
    }

    private void everySpout() {
        for (int s = -1; s < 9; s++) {
            for (int what = -1; what < 9; what++) {
                same("spout(" + s + ", " + what + ")", x.spout(s, what), model.spout(s, what));
            }
        }
        for (int what = -1; what < 7; what++) {
            same("count(" + what + ")", x.count(what), model.count(what));
        }
    }

    private void showers() {
        int w = near(x.rule(3));
        int i = near(random.nextBoolean() ? 12 : x.rule(4) + 1);
        int what = near(8);
        int v = near(256);
        switch (random.nextInt(8)) {
            case 0: same("shower(" + w + ", " + i + ")", x.shower(w, i), model.shower(w, i)); break;
            case 1: same("plays(" + w + ", " + i + ")", x.plays(w, i), model.plays(w, i)); break;
            case 2: same("falls(" + w + ", " + what + ")", x.falls(w, what), model.falls(w, what)); break;
            case 3: same("tune(" + i + ")", x.tune(i), model.tune(i)); break;
            case 4: same("tells(" + i + ", " + v + ")", x.tells(i, v), model.tells(i, v)); break;
            case 5: same("far(" + w + ")", x.far(w), model.far(w)); break;
            case 6: same("woken(" + w + ")", x.woken(w), model.woken(w)); break;
            default:
                int n = random.nextInt(5) == 0 ? near(13) : 1 + random.nextInt(12);
                int m = random.nextInt(5) == 0 ? near(11) : 1 + random.nextInt(10);
                same("draws " + w + " " + n + " " + m + " " + v, x.draws(w, n, m, v), model.draws(w, n, m, v));
                break;
        }
    }

    private void settings() {
        int w = near(x.rule(3));
        int s = near(x.rule(2));
        int what = near(3);
        switch (random.nextInt(6)) {
            case 0: same("best " + w + " " + what, x.best(w, what), model.best(w, what)); break;
            case 1: same("fewest " + w + " " + what, x.fewest(w, what), model.fewest(w, what)); break;
            case 2: same("all " + what, x.all(what), model.all(what)); break;
            case 3: same("quiet " + w + " " + what, x.quiet(w, what), model.quiet(w, what)); break;
            case 4: same("heard " + what, x.heard(what), model.heard(what)); break;
            default: same("lasts " + w + " " + s, x.lasts(w, s), model.lasts(w, s)); break;
        }
    }

    private void sheets() {
        int k = near(4);
        int lane = near(3);
        int n = random.nextBoolean() ? upTo(5) : near(41);
        int i = random.nextBoolean() ? upTo(5) : near(40);
        int v = random.nextBoolean() ? upTo(9) : random.nextInt(1 << 17) - (1 << 16) & ~(random.nextBoolean() ? 0xf8 : 0);
        int many = random.nextInt(9) == 0 ? near(13) : upTo(3);
        switch (random.nextInt(6)) {
            case 0: same("sheet " + k + " " + lane + " " + n, x.sheet(k, lane, n), model.sheet(k, lane, n)); break;
            case 1:
            case 2: same("lay " + k + " " + i + " " + v, x.lay(k, i, v), model.lay(k, i, v)); break;
            case 3: same("torn", x.torn(), model.torn()); break;
            default:
                same("read " + k + " " + lane + " " + i + " " + many, x.read(k, lane, i, many), model.read(k, lane, i, many));
                same("torn", x.torn(), model.torn());
                break;
        }
    }

    private void everything() {
        everySpout();
        hand();
        for (int what = -1; what < 8; what++) {
            same("rule(" + what + ")", x.rule(what), model.rule(what));
        }
        for (int g = -1; g < 6; g++) {
            for (int what = -1; what < 5; what++) {
                same("gutter(" + g + ", " + what + ")", x.gutter(g, what), model.gutter(g, what));
            }
        }
        for (int w = -1; w < 4; w++) {
            for (int what = -1; what < 9; what++) {
                same("falls(" + w + ", " + what + ")", x.falls(w, what), model.falls(w, what));
            }
            for (int i = -2; i < 13; i++) {
                same("shower(" + w + ", " + i + ")", x.shower(w, i), model.shower(w, i));
                same("plays(" + w + ", " + i + ")", x.plays(w, i), model.plays(w, i));
                same("tune(" + i + ")", x.tune(i), model.tune(i));
            }
            same("woken(" + w + ")", x.woken(w), model.woken(w));
            same("far(" + w + ")", x.far(w), model.far(w));
            same("lasts", x.lasts(w, 0), model.lasts(w, 0));
        }
    }
}
