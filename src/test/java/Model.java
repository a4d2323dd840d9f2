import java.util.ArrayList;
import java.util.Arrays;
import java.util.List;
import java.util.Map;
import java.util.regex.Matcher;
import java.util.regex.Pattern;

/**
 * The document told once more, as slowly and plainly as may be: drop by drop, with everything copied. The random
 * runs compare the class with it.
 */
final class Model {
    private static final int BAD = -1, STATE = -2, FULL = -3, NONE = -4;

    /** A fault of a text, as thrown out of the reading. */
    private static final class TextFault extends RuntimeException {
        private static final long serialVersionUID = 1L;
        final int place;
        final int fault;

        TextFault(int place, int fault) {
            this.place = place;
            this.fault = fault;
        }
    }

    static final class Cup {
        final int tone;
        final String told;
        final int n;
        final int other;
        String kind;
        int holds;
        int drops;
        int hits;
        int comes;
        int loud;
        boolean broken;

        Cup(int tone, String kind, int n, int other) {
            this.tone = tone;
            this.told = kind;
            this.kind = kind;
            this.n = n;
            this.other = other;
        }

        Cup copy() {
            Cup c = new Cup(tone, told, n, other);
            c.kind = kind;
            c.holds = holds;
            c.drops = drops;
            c.hits = hits;
            c.comes = comes;
            c.loud = loud;
            c.broken = broken;
            return c;
        }
    }

    /** The whole organ by hand; a shower by itself is played on a dried copy. */
    static final class Organ {
        final List<int[]> roofs = new ArrayList<>();
        final List<String[]> gutters = new ArrayList<>();
        final List<Integer> pegs = new ArrayList<>();
        final List<Boolean> blocked = new ArrayList<>();
        final List<Cup> cups = new ArrayList<>();
        final List<List<Integer>> showers = new ArrayList<>();
        final List<Integer> tune = new ArrayList<>();
        final List<int[]> sleepers = new ArrayList<>();
        Integer wear;
        int second;
        int fallen;
        int ranOff;
        int sounded;

        Organ copy() {
            Organ o = new Organ();
            o.roofs.addAll(roofs);
            o.gutters.addAll(gutters);
            o.pegs.addAll(pegs);
            o.blocked.addAll(blocked);
            cups.forEach(c -> o.cups.add(c.copy()));
            showers.forEach(s -> o.showers.add(new ArrayList<>(s)));
            o.tune.addAll(tune);
            o.sleepers.addAll(sleepers);
            o.wear = wear;
            o.second = second;
            o.fallen = fallen;
            o.ranOff = ranOff;
            o.sounded = sounded;
            return o;
        }

        Organ dried() {
            Organ o = copy();
            o.dry();
            return o;
        }

        void dry() {
            for (Cup c : cups) {
                c.holds = 0;
                c.drops = 0;
                c.hits = 0;
                c.comes = 0;
                c.loud = 0;
                c.broken = false;
            }
            second = 0;
            fallen = 0;
            ranOff = 0;
            sounded = 0;
        }

        int wearing() {
            return wear == null ? 0 : wear;
        }

        int second(int v) {
            int[] at = new int[gutters.size()];
            int[] come = new int[cups.size()];
            for (int s = 0; s < come.length; s++) {
                come[s] = cups.get(s).comes;
                cups.get(s).comes = 0;
            }
            for (int[] roof : roofs) {
                fallen += roof[0] * v;
                at[roof[1]] += roof[0] * v;
            }
            for (int g = 0; g < at.length; g++) {
                for (int drop = 0; drop < at[g]; drop++) {
                    boolean lastOdd = drop == at[g] - 1 && at[g] % 2 == 1;
                    boolean left = pegs.get(g) == 0 || pegs.get(g) == 2 && (lastOdd ? second % 2 == 0 : drop % 2 == 0);
                    String way = gutters.get(g)[left ? 0 : 1];
                    if (blocked.get(g) || way.equals("ground")) {
                        ranOff++;
                    } else if (way.startsWith("gutter")) {
                        at[way.charAt(6) - '0']++;
                    } else {
                        come[way.charAt(5) - '0']++;
                    }
                }
            }
            int tones = 0;
            for (int s = 0; s < come.length; s++) {
                Cup c = cups.get(s);
                int times = take(c, come[s]);
                c.loud = c.broken ? 0 : times;
                sounded += c.loud;
                tones |= c.loud > 0 ? 1 << c.tone : 0;
            }
            for (Cup c : cups) {
                c.broken = c.broken || wearing() > 0 && c.hits >= wearing();
            }
            second++;
            return tones;
        }

        private int take(Cup c, int w) {
            c.hits += w;
            int times = 0;
            switch (c.kind) {
                case "slate" -> {
                    ranOff += w;
                    times = Math.min(1, w);
                }
                case "tip", "join" -> {
                    c.holds += w;
                    while (c.holds >= c.n) {
                        c.holds -= c.n;
                        times++;
                        if (c.kind.equals("join")) {
                            cups.get(c.other).comes += c.n;
                        } else {
                            ranOff += c.n;
                        }
                    }
                }
                case "leak" -> {
                    c.holds += w;
                    int off = c.holds >= c.n ? c.holds : Math.min(c.holds, 1);
                    times = c.holds >= c.n ? 1 : 0;
                    ranOff += off;
                    c.holds -= off;
                }
                case "each" -> {
                    ranOff += w;
                    for (int drop = 0; drop < w; drop++) {
                        c.drops++;
                        times += c.drops % c.n == 0 ? 1 : 0;
                    }
                }
                default -> ranOff += w;
            }
            return times;
        }

        void settings(int v) {
            for (int g = 0, rest = v; g < pegs.size(); g++, rest /= 3) {
                pegs.set(g, rest % 3);
            }
        }

        int settings() {
            int v = 0;
            for (int g = 0, by = 1; g < pegs.size(); g++, by *= 3) {
                v += by * pegs.get(g);
            }
            return v;
        }

        int manySettings() {
            return (int) Math.round(Math.pow(3, pegs.size()));
        }
    }

    /** What a shower by itself was. */
    private static final class Played {
        final List<Integer> tones = new ArrayList<>();
        final List<Integer> louds = new ArrayList<>();
        final Organ organ;
        int heard;

        Played(Organ from, List<Integer> rain) {
            organ = from.dried();
            for (int v : rain) {
                tones.add(organ.second(v));
                int loud = 0;
                for (int s = 0; s < organ.cups.size(); s++) {
                    loud += organ.cups.get(s).loud;
                    heard |= organ.cups.get(s).loud > 0 ? 1 << s : 0;
                }
                louds.add(loud);
            }
        }

        int far() {
            int far = 0;
            for (int i = 0; i < 12; i++) {
                int one = i < tones.size() ? tones.get(i) : 0;
                int two = i < organ.tune.size() ? organ.tune.get(i) : 0;
                far += Integer.bitCount(one ^ two);
            }
            return far;
        }

        int woken() {
            int bits = 0;
            for (int p = 0; p < organ.sleepers.size(); p++) {
                int[] sleeper = organ.sleepers.get(p);
                for (int i = 0; i < louds.size(); i++) {
                    if (i >= sleeper[0] && i <= sleeper[1] && louds.get(i) >= sleeper[2]) {
                        bits |= 1 << p;
                    }
                }
            }
            return bits;
        }
    }

    private static final Pattern TOKEN = Pattern.compile("[a-z]+|[0-9]+|;");
    private static final List<String> KINDS = List.of("slate", "tip", "leak", "each", "join", "frozen");
    private static final Map<String, Integer> LIMITS = Map.of("roof", 4, "peg", 5, "spout", 8, "rain", 3, "sleep", 4,
            "tune", 1, "wear", 1);

    private StringBuilder tape = new StringBuilder();
    private Organ organ = new Organ();
    private final Organ[] images = new Organ[2];
    private final Object[] sheets = new Object[4];
    private int fault;
    private int torn;
    private int place;
    private String token;
    private int start;

    // ---- the text

    int feed(long v) {
        if (tape.length() > 312) {
            return FULL;
        }
        for (int i = 7; i >= 0; i--) {
            tape.append((char) (v >> 8 * i & 255));
        }
        return tape.length();
    }

    int end(int n) {
        int had = tape.length();
        if (n < 0 || n > had) {
            return BAD;
        }
        tape.setLength(n);
        return had;
    }

    int organ() {
        Organ told = new Organ();
        try {
            place = 0;
            int lines = 0;
            for (next(); !token.isEmpty(); next()) {
                line(told);
                lines++;
            }
            missing(told);
            fault = 0;
            organ = told;
            Arrays.fill(images, null);
            return lines;
        } catch (TextFault f) {
            fault = f.fault;
            return -10 - f.place;
        } finally {
            tape = new StringBuilder();
        }
    }

    private void next() {
        while (place < tape.length() && tape.charAt(place) == ' ') {
            place++;
        }
        start = place;
        token = "";
        if (place < tape.length()) {
            Matcher m = TOKEN.matcher(tape).region(place, tape.length());
            if (!m.lookingAt() || Character.isDigit(m.group().charAt(0)) && m.group().length() > 3) {
                throw new TextFault(start, 1);
            }
            token = m.group();
            place = m.end();
        }
    }

    private int number(int least, int most) {
        next();
        return taken(least, most);
    }

    private int taken(int least, int most) {
        if (!token.matches("[0-9]+")) {
            throw new TextFault(start, 2);
        }
        int v = Integer.parseInt(token);
        if (v < least || v > most) {
            throw new TextFault(start, 3);
        }
        return v;
    }

    private void sign() {
        next();
        if (!token.equals(";")) {
            throw new TextFault(start, 2);
        }
    }

    private int many(Organ o, String name) {
        return switch (name) {
            case "roof" -> o.roofs.size();
            case "peg" -> o.gutters.size();
            case "spout" -> o.cups.size();
            case "rain" -> o.showers.size();
            case "sleep" -> o.sleepers.size();
            case "tune" -> o.tune.isEmpty() ? 0 : 1;
            default -> o.wear == null ? 0 : 1;
        };
    }

    private void line(Organ o) {
        String name = token;
        if (!LIMITS.containsKey(name)) {
            throw new TextFault(start, 2);
        }
        if (many(o, name) == LIMITS.get(name)) {
            throw new TextFault(start, LIMITS.get(name) == 1 ? 4 : 5);
        }
        switch (name) {
            case "roof" -> o.roofs.add(new int[] {number(1, 9), number(0, 4)});
            case "peg" -> {
                o.gutters.add(new String[] {way(o.pegs.size()), way(o.pegs.size())});
                o.pegs.add(2);
                o.blocked.add(false);
            }
            case "spout" -> spoutLine(o);
            case "rain" -> {
                List<Integer> row = new ArrayList<>();
                seconds(row, 9);
                o.showers.add(row);
            }
            case "tune" -> seconds(o.tune, 255);
            case "sleep" -> {
                int from = number(0, 11);
                o.sleepers.add(new int[] {from, number(from, 11), number(1, 99)});
            }
            default -> o.wear = number(0, 999);
        }
        if (!name.equals("rain") && !name.equals("tune")) {
            sign();
        }
    }

    private String way(int g) {
        next();
        return switch (token) {
            case "ground" -> "ground";
            case "gutter" -> "gutter" + number(g + 1, 4);
            case "spout" -> "spout" + number(0, 7);
            default -> throw new TextFault(start, 2);
        };
    }

    private void spoutLine(Organ o) {
        int tone = number(0, 7);
        next();
        String kind = token;
        if (!KINDS.contains(kind)) {
            throw new TextFault(start, 2);
        }
        boolean sized = !kind.equals("slate") && !kind.equals("frozen");
        int n = sized ? number(1, 30) : 0;
        int other = kind.equals("join") ? number(0, 7) : NONE;
        if (other == o.cups.size()) {
            throw new TextFault(start, 3);
        }
        o.cups.add(new Cup(tone, kind, n, other));
    }

    private void seconds(List<Integer> row, int most) {
        row.add(number(0, most));
        for (next(); !token.equals(";"); next()) {
            int v = taken(0, most);
            if (row.size() == 12) {
                throw new TextFault(start, 5);
            }
            row.add(v);
        }
    }

    private void missing(Organ o) {
        boolean all = o.roofs.stream().allMatch(r -> r[1] < o.gutters.size());
        for (String[] ways : o.gutters) {
            for (String way : ways) {
                int n = way.charAt(way.length() - 1) - '0';
                all &= way.equals("ground") || n < (way.startsWith("gutter") ? o.gutters.size() : o.cups.size());
            }
        }
        all &= o.cups.stream().allMatch(c -> c.other < o.cups.size());
        if (!all) {
            throw new TextFault(tape.length(), 6);
        }
    }

    int fault() {
        return fault;
    }

    int rule(int what) {
        return pick(what, organ.roofs.size(), organ.gutters.size(), organ.cups.size(), organ.showers.size(),
                organ.tune.size(), organ.sleepers.size(), organ.wearing());
    }

    private static int pick(int what, int... answers) {
        return what >= 0 && what < answers.length ? answers[what] : BAD;
    }

    private static boolean in(int i, List<?> list) {
        return i >= 0 && i < list.size();
    }

    private static int wayNumber(String way) {
        int n = way.charAt(way.length() - 1) - '0';
        return way.equals("ground") ? 20 : way.startsWith("gutter") ? n : 10 + n;
    }

    int gutter(int g, int what) {
        if (!in(g, organ.gutters)) {
            return BAD;
        }
        String[] ways = organ.gutters.get(g);
        return pick(what, wayNumber(ways[0]), wayNumber(ways[1]), organ.pegs.get(g), organ.blocked.get(g) ? 1 : 0);
    }

    int spout(int s, int what) {
        if (!in(s, organ.cups)) {
            return BAD;
        }
        Cup c = organ.cups.get(s);
        boolean asTold = c.kind.equals(c.told);
        return pick(what, c.tone, KINDS.indexOf(c.kind), asTold ? c.n : 0, asTold ? c.other : NONE, c.holds, c.hits,
                c.broken ? 1 : 0, c.comes);
    }

    int peg(int g, int v) {
        return !in(g, organ.pegs) || v < 0 || v > 2 ? BAD : organ.pegs.set(g, v);
    }

    int block(int g, boolean is) {
        return !in(g, organ.blocked) ? BAD : organ.blocked.set(g, is) ? 1 : 0;
    }

    int cup(int s, int kind) {
        if (!in(s, organ.cups) || kind != 0 && kind != 5) {
            return BAD;
        }
        Cup c = organ.cups.get(s);
        int was = KINDS.indexOf(c.kind);
        c.kind = KINDS.get(kind);
        organ.ranOff += c.holds;
        c.holds = 0;
        c.drops = 0;
        return was;
    }

    int settings(int v) {
        if (v < 0 || v >= organ.manySettings()) {
            return BAD;
        }
        int was = organ.settings();
        organ.settings(v);
        return was;
    }

    // ---- by hand

    int rain(int v) {
        return v < 0 || v > 9 ? BAD : organ.second(v);
    }

    int dry() {
        int was = organ.second;
        organ.dry();
        return was;
    }

    private static int[] waters(Organ o) {
        int held = o.cups.stream().mapToInt(c -> c.holds).sum();
        int way = o.cups.stream().mapToInt(c -> c.comes).sum();
        if (o.fallen != o.ranOff + held + way) {
            throw new IllegalStateException("the model's water does not add up");
        }
        return new int[] {o.second, o.fallen, o.ranOff, held, way, o.sounded};
    }

    int water(int what) {
        return pick(what, waters(organ));
    }

    int loud(int s) {
        return in(s, organ.cups) ? organ.cups.get(s).loud : BAD;
    }

    // ---- showers

    int shower(int w, int i) {
        if (!in(w, organ.showers) || i != -1 && !in(i, organ.showers.get(w))) {
            return BAD;
        }
        return i == -1 ? organ.showers.get(w).size() : organ.showers.get(w).get(i);
    }

    private Played played(Organ o, int w) {
        return new Played(o, o.showers.get(w));
    }

    int plays(int w, int i) {
        return !in(w, organ.showers) || !in(i, organ.showers.get(w)) ? BAD : played(organ, w).tones.get(i);
    }

    private static int brokenBits(Organ o) {
        int bits = 0;
        for (int s = 0; s < o.cups.size(); s++) {
            bits |= o.cups.get(s).broken ? 1 << s : 0;
        }
        return bits;
    }

    int falls(int w, int what) {
        if (!in(w, organ.showers)) {
            return BAD;
        }
        Played p = played(organ, w);
        int most = p.louds.stream().mapToInt(i -> i).max().orElse(0);
        int[] water = waters(p.organ);
        return pick(what, water[1], water[2], water[3], water[4], water[5], most == 0 ? NONE : p.louds.indexOf(most),
                brokenBits(p.organ), (1 << organ.cups.size()) - 1 - p.heard);
    }

    int tune(int i) {
        return in(i, organ.tune) ? organ.tune.get(i) : BAD;
    }

    int tells(int i, int v) {
        if (i < 0 || i > organ.tune.size() || v < 0 || v > 255) {
            return BAD;
        }
        if (i == 12) {
            return FULL;
        }
        if (i == organ.tune.size()) {
            organ.tune.add(v);
        } else {
            organ.tune.set(i, v);
        }
        return organ.tune.size();
    }

    int far(int w) {
        return in(w, organ.showers) ? played(organ, w).far() : BAD;
    }

    // ---- settings

    private Organ by(int settings) {
        Organ o = organ.copy();
        o.settings(settings);
        return o;
    }

    private int[] fars(int w) {
        int[] fars = new int[organ.manySettings()];
        for (int v = 0; v < fars.length; v++) {
            fars[v] = played(by(v), w).far();
        }
        return fars;
    }

    int best(int w, int what) {
        if (!in(w, organ.showers)) {
            return BAD;
        }
        int[] fars = fars(w);
        int least = Arrays.stream(fars).min().getAsInt();
        int first = 0;
        while (fars[first] != least) {
            first++;
        }
        return pick(what, first, least, (int) Arrays.stream(fars).filter(f -> f == least).count());
    }

    int fewest(int w, int what) {
        if (!in(w, organ.showers)) {
            return BAD;
        }
        int[] fars = fars(w);
        int least = Arrays.stream(fars).min().getAsInt();
        for (int changes = 0; changes <= 5; changes++) {
            for (int v = 0; v < fars.length; v++) {
                Organ o = by(v);
                int others = 0;
                for (int g = 0; g < o.pegs.size(); g++) {
                    others += o.pegs.get(g).equals(organ.pegs.get(g)) ? 0 : 1;
                }
                if (others == changes && fars[v] == least) {
                    return pick(what, v, changes);
                }
            }
        }
        throw new IllegalStateException("no settings");
    }

    int all(int what) {
        if (what < 0 || what > 1) {
            return BAD;
        }
        if (organ.showers.isEmpty()) {
            return STATE;
        }
        int[] sums = new int[organ.manySettings()];
        for (int w = 0; w < organ.showers.size(); w++) {
            int[] fars = fars(w);
            for (int v = 0; v < sums.length; v++) {
                sums[v] += fars[v];
            }
        }
        int least = Arrays.stream(sums).min().getAsInt();
        int first = 0;
        while (sums[first] != least) {
            first++;
        }
        return pick(what, first, least);
    }

    int quiet(int w, int what) {
        if (!in(w, organ.showers) || what < 0 || what > 2) {
            return BAD;
        }
        int best = NONE;
        int least = NONE;
        int many = 0;
        for (int v = 0; v < organ.manySettings(); v++) {
            Played p = played(by(v), w);
            if (p.woken() == 0) {
                many++;
                if (best == NONE || p.far() < least) {
                    best = v;
                    least = p.far();
                }
            }
        }
        return pick(what, best, least, many);
    }

    int woken(int w) {
        return in(w, organ.showers) ? played(organ, w).woken() : BAD;
    }

    // ---- what it was

    int heard(int what) {
        if (what < 0 || what > 1) {
            return BAD;
        }
        if (organ.tune.isEmpty() || organ.tune.size() > 5) {
            return STATE;
        }
        int many = 0;
        int first = NONE;
        for (int row = (int) Math.pow(4, organ.tune.size()) - 1; row >= 0; row--) {
            List<Integer> rain = new ArrayList<>();
            for (int i = 0, rest = row; i < organ.tune.size(); i++, rest /= 4) {
                rain.add(0, rest % 4);
            }
            if (new Played(organ, rain).far() == 0) {
                many++;
                first = row;
            }
        }
        return pick(what, many, first);
    }

    int blocked(int w) {
        if (!in(w, organ.showers)) {
            return BAD;
        }
        int bits = far(w) == 0 ? 32 : 0;
        for (int g = 0; g < organ.gutters.size(); g++) {
            Organ o = organ.copy();
            if (!o.blocked.set(g, true) && played(o, w).far() == 0) {
                bits += 1 << g;
            }
        }
        return bits;
    }

    int frozen(int w) {
        if (!in(w, organ.showers)) {
            return BAD;
        }
        int bits = 0;
        for (int s = 0; s < organ.cups.size(); s++) {
            Organ o = organ.copy();
            boolean was = o.cups.get(s).kind.equals("frozen");
            o.cups.get(s).kind = "frozen";
            if (!was && played(o, w).far() == 0) {
                bits += 1 << s;
            }
        }
        return bits;
    }

    int lasts(int w, int s) {
        if (!in(w, organ.showers) || !in(s, organ.cups)) {
            return BAD;
        }
        Organ o = organ.dried();
        for (int times = 1; times < 100; times++) {
            o.showers.get(w).forEach(o::second);
            if (o.cups.get(s).broken) {
                return times;
            }
        }
        return NONE;
    }

    int draws(int w, int n, int m, int seed) {
        if (!in(w, organ.showers) || n < 1 || n > 12 || m < 1 || m > 10) {
            return BAD;
        }
        List<Integer> row = new ArrayList<>();
        long state = seed;
        for (int i = 0; i < n; i++) {
            state = state * 1103515245L + 12345L & 0xffffffffL;
            row.add((int) (state / 65536 % 32768 % m));
        }
        organ.showers.set(w, row);
        return row.stream().mapToInt(i -> i).sum();
    }

    // ---- images, sheets

    int keep(int k) {
        if (k < 0 || k > 1) {
            return BAD;
        }
        int was = images[k] == null ? 0 : 1;
        images[k] = organ.copy();
        return was;
    }

    int back(int k) {
        if (k < 0 || k > 1) {
            return BAD;
        }
        if (images[k] == null) {
            return STATE;
        }
        organ = images[k].copy();
        return organ.second;
    }

    int sheet(int k, int lane, int n) {
        if (k < 0 || k > 3 || lane < 0 || lane > 2 || n > 40) {
            return BAD;
        }
        if (n < 0) {
            return -14;
        }
        sheets[k] = lane == 0 ? new byte[n] : lane == 1 ? new short[n] : new int[n];
        return 1;
    }

    int lay(int k, int i, int v) {
        if (k < 0 || k > 3) {
            return BAD;
        }
        try {
            if (sheets[k] instanceof byte[] row) {
                row[i] = (byte) v;
            } else if (sheets[k] instanceof short[] row) {
                row[i] = (short) v;
            } else {
                ((int[]) sheets[k])[i] = v;
            }
            return 1;
        } catch (NullPointerException e) {
            return -11;
        } catch (ArrayIndexOutOfBoundsException e) {
            return -12;
        }
    }

    /** What the machine itself finds: the sheets are real rows of their lanes. */
    int read(int k, int lane, int f, int n) {
        if (k < 0 || k > 3 || lane < 0 || lane > 2 || n < 0 || n > 12) {
            return BAD;
        }
        List<Integer> rain = new ArrayList<>();
        int found = 0;
        try {
            for (int i = 0; i < n; i++) {
                int v = lane == 0 ? ((byte[]) sheets[k])[f + i]
                        : lane == 1 ? ((short[]) sheets[k])[f + i] : ((int[]) sheets[k])[f + i];
                if (v < 0 || v > 9) {
                    return -20 - i;
                }
                rain.add(v);
            }
        } catch (NullPointerException e) {
            found = 1;
        } catch (ArrayIndexOutOfBoundsException e) {
            found = 2;
        } catch (ClassCastException e) {
            found = 3;
        }
        torn = found;
        rain.forEach(organ::second);
        return rain.size();
    }

    int torn() {
        return torn;
    }

    int count(int what) {
        int cells = sheets[0] == null ? NONE : java.lang.reflect.Array.getLength(sheets[0]);
        return pick(what, (int) organ.blocked.stream().filter(b -> b).count(), Integer.bitCount(brokenBits(organ)),
                (images[0] == null ? 0 : 1) + (images[1] == null ? 0 : 1), tape.length(), cells);
    }
}
