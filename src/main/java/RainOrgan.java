import java.util.Arrays;

/**
 * An organ played by rain. A text tells its roofs, gutters, spouts, showers, tune and sleepers; rain falls
 * by hand, second by second, or as one of the showers, by itself.
 *
 * Every row is made with the object and used again: no call makes an object.
 */
public final class RainOrgan {
    public static final int BAD = -1, STATE = -2, FULL = -3, NONE = -4;

    private static final int ROOFS = 4, GUTTERS = 5, SPOUTS = 8, SHOWERS = 3, SECONDS = 12, SLEEPERS = 4;
    private static final int IMAGES = 2, SHEETS = 4, LANES = 3, CELLS = 40, TAPE_BYTES = 320, FEED_BYTES = 8;
    private static final int MOST_AREA = 9, MOST_RAIN = 9, MOST_TONES = 255, MOST_SIZE = 30, MOST_LOUD = 99;
    private static final int MOST_WEAR = 999, MOST_FIGURES = 3;

    /** Where a gutter leads, as gutter() answers it: a gutter is its own number. */
    private static final int SPOUT_WAY = 10, GROUND_WAY = 20;

    private static final int LEFT = 0, RIGHT = 1, BOTH = 2, PEG_WAYS = 3;
    private static final int SLATE = 0, TIP = 1, LEAK = 2, EACH = 3, JOIN = 4, FROZEN = 5;
    private static final int BYTES = 0, SHORTS = 1;

    /** Faults of a text. */
    private static final int NO_TOKEN = 1, MISPLACED = 2, OUT_OF_BOUNDS = 3, AGAIN = 4, TOO_MANY = 5, MISSING = 6;
    private static final int FAULT_ANSWER = -10;

    /** Faults of a sheet. */
    private static final int NULL_FAULT = 1, INDEX_FAULT = 2, CAST_FAULT = 3, SIZE_FAULT = 4;
    private static final int NO_RAIN_ANSWER = -20;

    private static final int HEARD_SECONDS = 5, HEARD_BITS = 2, HEARD_MASK = 3;
    private static final int AS_IT_IS = 32;
    private static final int MOST_FALLS = 99;
    private static final int DRAW_FACTOR = 1103515245, DRAW_STEP = 12345, DRAW_SHIFT = 16, DRAW_MASK = 0x7fff;
    private static final int MOST_DRAWN = 10;

    private final Reader reader = new Reader();
    private final Tape tape = reader.tape;
    private Plan plan = new Plan();
    private Setup setup = new Setup();
    private final Flow hand = new Flow();
    private final Concert concert = new Concert();
    private final Choice choice = new Choice();
    private final Image[] images = new Image[IMAGES];
    private final Sheet[] sheets = new Sheet[SHEETS];
    private int textFault;
    private int sheetFault;

    public RainOrgan() {
        for (int k = 0; k < IMAGES; k++) {
            images[k] = new Image();
        }
        for (int k = 0; k < SHEETS; k++) {
            sheets[k] = new Sheet();
        }
    }

    // ---- the text

    public int feed(long v) {
        if (tape.length + FEED_BYTES > TAPE_BYTES) {
            return FULL;
        }
        for (int shift = 56; shift >= 0; shift -= 8) {
            tape.bytes[tape.length] = (byte) (v >>> shift);
            tape.length++;
        }
        return tape.length;
    }

    public int end(int n) {
        if (n < 0 || n > tape.length) {
            return BAD;
        }
        int had = tape.length;
        tape.length = n;
        return had;
    }

    public int organ() {
        int lines = 0;
        reader.begin();
        // A line takes several bytes: the bound is never met.
        while (lines < TAPE_BYTES && reader.readLine()) {
            lines++;
        }
        tape.length = 0;
        textFault = reader.fault;
        if (textFault != 0) {
            return FAULT_ANSWER - reader.place;
        }
        takeWhatWasRead();
        return lines;
    }

    /** The reader gets the old plan and setup for its next text, so that none need be made. */
    private void takeWhatWasRead() {
        Plan oldPlan = plan;
        Setup oldSetup = setup;
        plan = reader.plan;
        setup = reader.setup;
        reader.plan = oldPlan;
        reader.setup = oldSetup;
        hand.dryUp();
        for (int k = 0; k < IMAGES; k++) {
            images[k].taken = false;
        }
    }

    public int fault() {
        return textFault;
    }

    public int rule(int what) {
        switch (what) {
            case 0: return plan.roofs;
            case 1: return plan.gutters;
            case 2: return plan.spouts;
            case 3: return plan.showers;
            case 4: return setup.tuneSeconds;
            case 5: return plan.sleepers;
            case 6: return plan.wear;
            default: return BAD;
        }
    }

    public int gutter(int g, int what) {
        if (!isGutter(g)) {
            return BAD;
        }
        switch (what) {
            case 0: return plan.left[g];
            case 1: return plan.right[g];
            case 2: return setup.pegs[g];
            case 3: return setup.blocks[g];
            default: return BAD;
        }
    }

    public int spout(int s, int what) {
        if (!isSpout(s)) {
            return BAD;
        }
        int kind = setup.kinds[s];
        switch (what) {
            case 0: return plan.tones[s];
            case 1: return kind;
            case 2: return hasSize(kind) ? plan.sizes[s] : 0;
            case 3: return kind == JOIN ? plan.others[s] : NONE;
            case 4: return hand.held[s];
            case 5: return (int) hand.hits[s];
            case 6: return hand.isBroken(plan, s) ? 1 : 0;
            case 7: return hand.onTheWay[s];
            default: return BAD;
        }
    }

    public int peg(int g, int v) {
        if (!isGutter(g) || v < LEFT || v > BOTH) {
            return BAD;
        }
        int was = setup.pegs[g];
        setup.pegs[g] = v;
        return was;
    }

    public int block(int g, boolean is) {
        if (!isGutter(g)) {
            return BAD;
        }
        int was = setup.blocks[g];
        setup.blocks[g] = is ? 1 : 0;
        return was;
    }

    public int cup(int s, int kind) {
        if (!isSpout(s) || (kind != SLATE && kind != FROZEN)) {
            return BAD;
        }
        int was = setup.kinds[s];
        setup.kinds[s] = kind;
        hand.emptyCup(s);
        return was;
    }

    public int settings(int v) {
        if (v < 0 || v >= manySettings()) {
            return BAD;
        }
        int was = setup.pegsAsNumber(plan.gutters);
        setup.setPegs(plan.gutters, v);
        return was;
    }

    // ---- by hand

    public int rain(int v) {
        if (!isRain(v)) {
            return BAD;
        }
        return hand.passSecond(plan, setup, v);
    }

    public int dry() {
        int was = hand.second;
        hand.dryUp();
        return was;
    }

    public int water(int what) {
        switch (what) {
            case 0: return hand.second;
            case 1: return hand.fallen;
            case 2: return hand.ranOff;
            case 3: return sum(hand.held);
            case 4: return sum(hand.onTheWay);
            case 5: return hand.sounded;
            default: return BAD;
        }
    }

    public int loud(int s) {
        return isSpout(s) ? hand.louds[s] : BAD;
    }

    // ---- showers

    public int shower(int w, int i) {
        if (!isShower(w) || i < -1 || i >= setup.lengths[w]) {
            return BAD;
        }
        return i == -1 ? setup.lengths[w] : setup.rains[w][i];
    }

    public int plays(int w, int i) {
        if (!isShower(w) || i < 0 || i >= setup.lengths[w]) {
            return BAD;
        }
        concert.perform(plan, setup, w);
        return concert.tones[i];
    }

    public int falls(int w, int what) {
        if (!isShower(w) || what < 0 || what > 7) {
            return BAD;
        }
        concert.perform(plan, setup, w);
        Flow flow = concert.flow;
        switch (what) {
            case 0: return flow.fallen;
            case 1: return flow.ranOff;
            case 2: return sum(flow.held);
            case 3: return sum(flow.onTheWay);
            case 4: return flow.sounded;
            case 5: return concert.loudestSecond();
            case 6: return flow.brokenSpouts(plan);
            default: return allSpouts() & ~flow.spoutsHeard;
        }
    }

    public int tune(int i) {
        return i >= 0 && i < setup.tuneSeconds ? setup.tune[i] : BAD;
    }

    public int tells(int i, int v) {
        if (i < 0 || i > setup.tuneSeconds || v < 0 || v > MOST_TONES) {
            return BAD;
        }
        if (i >= SECONDS) {
            return FULL;
        }
        setup.tune[i] = v;
        if (i == setup.tuneSeconds) {
            setup.tuneSeconds++;
        }
        return setup.tuneSeconds;
    }

    public int far(int w) {
        return isShower(w) ? distance(w) : BAD;
    }

    // ---- settings

    public int best(int w, int what) {
        if (!isShower(w) || what < 0 || what > 2) {
            return BAD;
        }
        chooseForShower(w, false);
        switch (what) {
            case 0: return choice.number;
            case 1: return choice.far;
            default: return choice.asNear;
        }
    }

    public int fewest(int w, int what) {
        if (!isShower(w) || what < 0 || what > 1) {
            return BAD;
        }
        chooseForShower(w, false);
        return what == 0 ? choice.fewestNumber : choice.fewestChanges;
    }

    public int all(int what) {
        if (what < 0 || what > 1) {
            return BAD;
        }
        if (plan.showers == 0) {
            return STATE;
        }
        chooseForAllShowers();
        return what == 0 ? choice.number : choice.far;
    }

    public int quiet(int w, int what) {
        if (!isShower(w) || what < 0 || what > 2) {
            return BAD;
        }
        chooseForShower(w, true);
        if (what == 2) {
            return choice.offers;
        }
        if (choice.offers == 0) {
            return NONE;
        }
        return what == 0 ? choice.number : choice.far;
    }

    public int woken(int w) {
        if (!isShower(w)) {
            return BAD;
        }
        concert.perform(plan, setup, w);
        return concert.wokenSleepers(plan);
    }

    // ---- what it was

    public int heard(int what) {
        if (what < 0 || what > 1) {
            return BAD;
        }
        int seconds = setup.tuneSeconds;
        if (seconds < 1 || seconds > HEARD_SECONDS) {
            return STATE;
        }
        int rows = 0;
        int first = NONE;
        int end = 1 << (HEARD_BITS * seconds);
        for (int row = 0; row < end; row++) {
            if (soundsAsTheTune(row)) {
                rows++;
                first = first == NONE ? row : first;
            }
        }
        return what == 0 ? rows : first;
    }

    public int blocked(int w) {
        if (!isShower(w)) {
            return BAD;
        }
        int bits = distance(w) == 0 ? AS_IT_IS : 0;
        for (int g = 0; g < plan.gutters; g++) {
            if (setup.blocks[g] == 0) {
                setup.blocks[g] = 1;
                bits |= distance(w) == 0 ? 1 << g : 0;
                setup.blocks[g] = 0;
            }
        }
        return bits;
    }

    public int frozen(int w) {
        if (!isShower(w)) {
            return BAD;
        }
        int bits = 0;
        for (int s = 0; s < plan.spouts; s++) {
            int kind = setup.kinds[s];
            if (kind != FROZEN) {
                setup.kinds[s] = FROZEN;
                bits |= distance(w) == 0 ? 1 << s : 0;
                setup.kinds[s] = kind;
            }
        }
        return bits;
    }

    public int lasts(int w, int s) {
        if (!isShower(w) || !isSpout(s)) {
            return BAD;
        }
        Flow flow = concert.flow;
        flow.dryUp();
        for (int times = 1; times <= MOST_FALLS; times++) {
            for (int i = 0; i < setup.lengths[w]; i++) {
                flow.passSecond(plan, setup, setup.rains[w][i]);
            }
            if (flow.isBroken(plan, s)) {
                return times;
            }
        }
        return NONE;
    }

    public int draws(int w, int n, int m, int seed) {
        if (!isShower(w) || n < 1 || n > SECONDS || m < 1 || m > MOST_DRAWN) {
            return BAD;
        }
        int state = seed;
        int drops = 0;
        for (int i = 0; i < n; i++) {
            state = state * DRAW_FACTOR + DRAW_STEP;
            int v = ((state >>> DRAW_SHIFT) & DRAW_MASK) % m;
            setup.rains[w][i] = v;
            drops += v;
        }
        setup.lengths[w] = n;
        return drops;
    }

    // ---- images, sheets

    public int keep(int k) {
        if (!isImage(k)) {
            return BAD;
        }
        Image image = images[k];
        int was = image.taken ? 1 : 0;
        image.taken = true;
        image.setup.copyFrom(setup);
        image.flow.copyFrom(hand);
        return was;
    }

    public int back(int k) {
        if (!isImage(k)) {
            return BAD;
        }
        Image image = images[k];
        if (!image.taken) {
            return STATE;
        }
        setup.copyFrom(image.setup);
        hand.copyFrom(image.flow);
        return hand.second;
    }

    public int sheet(int k, int lane, int n) {
        if (!isSheet(k) || !isLane(lane) || n > CELLS) {
            return BAD;
        }
        if (n < 0) {
            return FAULT_ANSWER - SIZE_FAULT;
        }
        sheets[k].renew(lane, n);
        return 1;
    }

    public int lay(int k, int i, int v) {
        if (!isSheet(k)) {
            return BAD;
        }
        Sheet sheet = sheets[k];
        int found = sheet.faultAt(sheet.lane, i);
        if (found != 0) {
            return FAULT_ANSWER - found;
        }
        sheet.put(i, v);
        return 1;
    }

    public int read(int k, int lane, int f, int n) {
        if (!isSheet(k) || !isLane(lane) || n < 0 || n > SECONDS) {
            return BAD;
        }
        Sheet sheet = sheets[k];
        int come = 0;
        int found = 0;
        while (come < n && found == 0) {
            found = sheet.faultAt(lane, f + come);
            if (found == 0) {
                if (!isRain(sheet.cells[f + come])) {
                    return NO_RAIN_ANSWER - come;
                }
                come++;
            }
        }
        for (int i = 0; i < come; i++) {
            hand.passSecond(plan, setup, sheet.cells[f + i]);
        }
        sheetFault = found;
        return come;
    }

    public int torn() {
        return sheetFault;
    }

    public int count(int what) {
        switch (what) {
            case 0: return sum(setup.blocks);
            case 1: return Integer.bitCount(hand.brokenSpouts(plan));
            case 2: return keptImages();
            case 3: return tape.length;
            case 4: return sheets[0].isNothing() ? NONE : sheets[0].size;
            default: return BAD;
        }
    }

    // ---- what the calls share

    private boolean isGutter(int g) {
        return g >= 0 && g < plan.gutters;
    }

    private boolean isSpout(int s) {
        return s >= 0 && s < plan.spouts;
    }

    private boolean isShower(int w) {
        return w >= 0 && w < plan.showers;
    }

    private static boolean isImage(int k) {
        return k >= 0 && k < IMAGES;
    }

    private static boolean isSheet(int k) {
        return k >= 0 && k < SHEETS;
    }

    private static boolean isLane(int lane) {
        return lane >= 0 && lane < LANES;
    }

    private static boolean isRain(int v) {
        return v >= 0 && v <= MOST_RAIN;
    }

    private static boolean hasSize(int kind) {
        return kind != SLATE && kind != FROZEN;
    }

    private static int sum(int[] row) {
        int total = 0;
        for (int value : row) {
            total += value;
        }
        return total;
    }

    private int allSpouts() {
        return (1 << plan.spouts) - 1;
    }

    private int keptImages() {
        int kept = 0;
        for (int k = 0; k < IMAGES; k++) {
            kept += images[k].taken ? 1 : 0;
        }
        return kept;
    }

    private int manySettings() {
        int many = 1;
        for (int g = 0; g < plan.gutters; g++) {
            many *= PEG_WAYS;
        }
        return many;
    }

    private int distance(int w) {
        concert.perform(plan, setup, w);
        return concert.farFromTune(setup);
    }

    /** Offers every setting to the choice (only those that wake nobody, if asked) and puts the pegs back. */
    private void chooseForShower(int w, boolean onlyQuiet) {
        int now = setup.pegsAsNumber(plan.gutters);
        int many = manySettings();
        choice.begin(now, plan.gutters);
        for (int number = 0; number < many; number++) {
            setup.setPegs(plan.gutters, number);
            concert.perform(plan, setup, w);
            if (!onlyQuiet || concert.wokenSleepers(plan) == 0) {
                choice.offer(number, concert.farFromTune(setup));
            }
        }
        setup.setPegs(plan.gutters, now);
    }

    private void chooseForAllShowers() {
        int now = setup.pegsAsNumber(plan.gutters);
        int many = manySettings();
        choice.begin(now, plan.gutters);
        for (int number = 0; number < many; number++) {
            setup.setPegs(plan.gutters, number);
            int far = 0;
            for (int w = 0; w < plan.showers; w++) {
                concert.perform(plan, setup, w);
                far += concert.farFromTune(setup);
            }
            choice.offer(number, far);
        }
        setup.setPegs(plan.gutters, now);
    }

    /** Whether rain plays the tune; its seconds are the row's figures to the base 4. The first wrong second ends it. */
    private boolean soundsAsTheTune(int row) {
        Flow flow = concert.flow;
        flow.dryUp();
        int seconds = setup.tuneSeconds;
        for (int i = 0; i < seconds; i++) {
            int v = (row >>> (HEARD_BITS * (seconds - 1 - i))) & HEARD_MASK;
            if (flow.passSecond(plan, setup, v) != setup.tune[i]) {
                return false;
            }
        }
        return true;
    }

    /** The bytes that were fed. */
    private static final class Tape {
        final byte[] bytes = new byte[TAPE_BYTES];
        int length;
    }

    /** What only a text tells. */
    private static final class Plan {
        int roofs;
        final int[] areas = new int[ROOFS];
        final int[] roofGutters = new int[ROOFS];
        int gutters;
        final int[] left = new int[GUTTERS];
        final int[] right = new int[GUTTERS];
        int spouts;
        final int[] tones = new int[SPOUTS];
        final int[] sizes = new int[SPOUTS];
        final int[] others = new int[SPOUTS];
        int showers;
        int sleepers;
        final int[] sleepsFrom = new int[SLEEPERS];
        final int[] sleepsTo = new int[SLEEPERS];
        final int[] wakesAt = new int[SLEEPERS];
        int wear;

        /** The counts alone tell what there is: rows behind them are never looked at. */
        void forget() {
            roofs = 0;
            gutters = 0;
            spouts = 0;
            showers = 0;
            sleepers = 0;
            wear = 0;
        }
    }

    /** What a text tells and calls may change: it is kept in images. */
    private static final class Setup {
        final int[] pegs = new int[GUTTERS];
        final int[] blocks = new int[GUTTERS];
        final int[] kinds = new int[SPOUTS];
        final int[] lengths = new int[SHOWERS];
        final int[][] rains = new int[SHOWERS][SECONDS];
        final int[] tune = new int[SECONDS];
        int tuneSeconds;

        void forget() {
            Arrays.fill(pegs, BOTH);
            Arrays.fill(blocks, 0);
            tuneSeconds = 0;
        }

        void copyFrom(Setup from) {
            System.arraycopy(from.pegs, 0, pegs, 0, GUTTERS);
            System.arraycopy(from.blocks, 0, blocks, 0, GUTTERS);
            System.arraycopy(from.kinds, 0, kinds, 0, SPOUTS);
            System.arraycopy(from.lengths, 0, lengths, 0, SHOWERS);
            for (int w = 0; w < SHOWERS; w++) {
                System.arraycopy(from.rains[w], 0, rains[w], 0, SECONDS);
            }
            System.arraycopy(from.tune, 0, tune, 0, SECONDS);
            tuneSeconds = from.tuneSeconds;
        }

        int pegsAsNumber(int gutters) {
            int number = 0;
            for (int g = gutters - 1; g >= 0; g--) {
                number = number * PEG_WAYS + pegs[g];
            }
            return number;
        }

        void setPegs(int gutters, int number) {
            int rest = number;
            for (int g = 0; g < gutters; g++) {
                pegs[g] = rest % PEG_WAYS;
                rest /= PEG_WAYS;
            }
        }
    }

    /** Water on its way through the organ, second by second. */
    private static final class Flow {
        final int[] held = new int[SPOUTS];
        final int[] counts = new int[SPOUTS];
        /** Long, because joined cups may pass the same drops round for as long as the organ is used. */
        final long[] hits = new long[SPOUTS];
        final int[] onTheWay = new int[SPOUTS];
        final int[] louds = new int[SPOUTS];
        int second;
        int fallen;
        int ranOff;
        int sounded;
        int spoutsHeard;
        private final int[] inGutters = new int[GUTTERS];
        private final int[] atSpouts = new int[SPOUTS];

        void dryUp() {
            Arrays.fill(held, 0);
            Arrays.fill(counts, 0);
            Arrays.fill(hits, 0);
            Arrays.fill(onTheWay, 0);
            Arrays.fill(louds, 0);
            second = 0;
            fallen = 0;
            ranOff = 0;
            sounded = 0;
            spoutsHeard = 0;
        }

        void copyFrom(Flow from) {
            System.arraycopy(from.held, 0, held, 0, SPOUTS);
            System.arraycopy(from.counts, 0, counts, 0, SPOUTS);
            System.arraycopy(from.hits, 0, hits, 0, SPOUTS);
            System.arraycopy(from.onTheWay, 0, onTheWay, 0, SPOUTS);
            System.arraycopy(from.louds, 0, louds, 0, SPOUTS);
            second = from.second;
            fallen = from.fallen;
            ranOff = from.ranOff;
            sounded = from.sounded;
            spoutsHeard = from.spoutsHeard;
        }

        /** A second with rain v: its tones. */
        int passSecond(Plan plan, Setup setup, int v) {
            // What was tipped a second ago arrives now; what is tipped now waits until the next second.
            System.arraycopy(onTheWay, 0, atSpouts, 0, SPOUTS);
            Arrays.fill(onTheWay, 0);
            Arrays.fill(inGutters, 0);
            fallOnRoofs(plan, v);
            runThroughGutters(plan, setup);
            int tones = fillCups(plan, setup);
            second++;
            return tones;
        }

        private void fallOnRoofs(Plan plan, int v) {
            for (int r = 0; r < plan.roofs; r++) {
                int drops = plan.areas[r] * v;
                fallen += drops;
                lead(plan.roofGutters[r], drops);
            }
        }

        private void runThroughGutters(Plan plan, Setup setup) {
            for (int g = 0; g < plan.gutters; g++) {
                int drops = inGutters[g];
                if (setup.blocks[g] != 0) {
                    ranOff += drops;
                } else {
                    int toLeft = shareOfLeft(setup.pegs[g], drops);
                    lead(plan.left[g], toLeft);
                    lead(plan.right[g], drops - toLeft);
                }
            }
        }

        private int shareOfLeft(int peg, int drops) {
            if (peg == LEFT) {
                return drops;
            }
            if (peg == RIGHT) {
                return 0;
            }
            boolean oddOneGoesLeft = second % 2 == 0;
            return oddOneGoesLeft ? drops - drops / 2 : drops / 2;
        }

        private void lead(int way, int drops) {
            if (way >= 0 && way < GUTTERS) {
                inGutters[way] += drops;
            } else if (way >= SPOUT_WAY && way < SPOUT_WAY + SPOUTS) {
                atSpouts[way - SPOUT_WAY] += drops;
            } else {
                ranOff += drops;
            }
        }

        private int fillCups(Plan plan, Setup setup) {
            int tones = 0;
            for (int s = 0; s < plan.spouts; s++) {
                boolean broken = isBroken(plan, s);
                int drops = atSpouts[s];
                hits[s] += drops;
                int times = fillCup(plan, setup.kinds[s], s, drops);
                louds[s] = broken ? 0 : times;
                if (louds[s] > 0) {
                    sounded += louds[s];
                    spoutsHeard |= 1 << s;
                    tones |= 1 << plan.tones[s];
                }
            }
            return tones;
        }

        /** How often the cup sounds, unless it is broken. */
        private int fillCup(Plan plan, int kind, int s, int drops) {
            switch (kind) {
                case SLATE:
                    ranOff += drops;
                    return drops > 0 ? 1 : 0;
                case TIP:
                    return tip(s, plan.sizes[s], drops, GROUND_WAY);
                case LEAK:
                    return leak(s, plan.sizes[s], drops);
                case EACH:
                    return countEach(s, plan.sizes[s], drops);
                case JOIN:
                    return tip(s, plan.sizes[s], drops, plan.others[s]);
                default:
                    ranOff += drops;
                    return 0;
            }
        }

        private int tip(int s, int size, int drops, int other) {
            held[s] += drops;
            int times = size > 0 ? held[s] / size : 0;
            int tipped = times * size;
            held[s] -= tipped;
            if (other >= 0 && other < SPOUTS) {
                onTheWay[other] += tipped;
            } else {
                ranOff += tipped;
            }
            return times;
        }

        private int leak(int s, int size, int drops) {
            held[s] += drops;
            if (held[s] >= size) {
                ranOff += held[s];
                held[s] = 0;
                return 1;
            }
            if (held[s] > 0) {
                ranOff++;
                held[s]--;
            }
            return 0;
        }

        private int countEach(int s, int size, int drops) {
            ranOff += drops;
            counts[s] += drops;
            int times = size > 0 ? counts[s] / size : 0;
            counts[s] -= times * size;
            return times;
        }

        void emptyCup(int s) {
            ranOff += held[s];
            held[s] = 0;
            counts[s] = 0;
        }

        boolean isBroken(Plan plan, int s) {
            return plan.wear > 0 && hits[s] >= plan.wear;
        }

        int brokenSpouts(Plan plan) {
            int bits = 0;
            for (int s = 0; s < plan.spouts; s++) {
                bits |= isBroken(plan, s) ? 1 << s : 0;
            }
            return bits;
        }
    }

    /** A shower by itself, and what was heard of it in each second. */
    private static final class Concert {
        final Flow flow = new Flow();
        final int[] tones = new int[SECONDS];
        private final int[] sounds = new int[SECONDS];
        private int seconds;

        void perform(Plan plan, Setup setup, int w) {
            flow.dryUp();
            seconds = setup.lengths[w];
            for (int i = 0; i < seconds; i++) {
                int before = flow.sounded;
                tones[i] = flow.passSecond(plan, setup, setup.rains[w][i]);
                sounds[i] = flow.sounded - before;
            }
        }

        int farFromTune(Setup setup) {
            int far = 0;
            for (int i = 0; i < SECONDS; i++) {
                int played = i < seconds ? tones[i] : 0;
                int told = i < setup.tuneSeconds ? setup.tune[i] : 0;
                far += Integer.bitCount(played ^ told);
            }
            return far;
        }

        int loudestSecond() {
            int most = 0;
            int loudest = NONE;
            for (int i = 0; i < seconds; i++) {
                if (sounds[i] > most) {
                    most = sounds[i];
                    loudest = i;
                }
            }
            return loudest;
        }

        int wokenSleepers(Plan plan) {
            int bits = 0;
            for (int p = 0; p < plan.sleepers; p++) {
                for (int i = plan.sleepsFrom[p]; i <= plan.sleepsTo[p] && i < seconds; i++) {
                    bits |= sounds[i] >= plan.wakesAt[p] ? 1 << p : 0;
                }
            }
            return bits;
        }
    }

    /** The nearest of the settings that are offered, by growing numbers. */
    private static final class Choice {
        int number;
        int far;
        int asNear;
        int offers;
        int fewestNumber;
        int fewestChanges;
        private int now;
        private int gutters;

        /** Nothing but the offers is asked for before one was made: the first offer sets the rest. */
        void begin(int settingsNow, int manyGutters) {
            now = settingsNow;
            gutters = manyGutters;
            offers = 0;
        }

        void offer(int candidate, int distance) {
            int changes = changedPegs(candidate);
            boolean nearer = offers == 0 || distance < far;
            offers++;
            if (nearer) {
                number = candidate;
                far = distance;
                asNear = 0;
            }
            if (distance == far) {
                asNear++;
                if (nearer || changes < fewestChanges) {
                    fewestNumber = candidate;
                    fewestChanges = changes;
                }
            }
        }

        private int changedPegs(int candidate) {
            int one = now;
            int another = candidate;
            int changes = 0;
            for (int g = 0; g < gutters; g++) {
                changes += one % PEG_WAYS != another % PEG_WAYS ? 1 : 0;
                one /= PEG_WAYS;
                another /= PEG_WAYS;
            }
            return changes;
        }
    }

    /** How the organ was, to come back to. */
    private static final class Image {
        final Setup setup = new Setup();
        final Flow flow = new Flow();
        boolean taken;
    }

    /** A row of cells of one lane, or nothing. */
    private static final class Sheet {
        private static final int NOTHING = -1;

        final int[] cells = new int[CELLS];
        int lane;
        int size = NOTHING;

        boolean isNothing() {
            return size == NOTHING;
        }

        void renew(int newLane, int newSize) {
            Arrays.fill(cells, 0);
            lane = newLane;
            size = newSize;
        }

        /** What a machine would find that takes the sheet as one of asLane and looks at cell i; 0: nothing. */
        int faultAt(int asLane, int i) {
            if (isNothing()) {
                return NULL_FAULT;
            }
            if (asLane != lane) {
                return CAST_FAULT;
            }
            return i < 0 || i >= size ? INDEX_FAULT : 0;
        }

        void put(int i, int v) {
            if (lane == BYTES) {
                cells[i] = (byte) v;
            } else if (lane == SHORTS) {
                cells[i] = (short) v;
            } else {
                cells[i] = v;
            }
        }
    }

    /** Reads the tape token by token into a plan and a setup that nobody uses yet, up to the first fault. */
    private static final class Reader {
        private static final int NOTHING = 0, END = 1, NAME = 2, NUMBER = 3, SEMICOLON = 4;

        final Tape tape = new Tape();
        Plan plan = new Plan();
        Setup setup = new Setup();
        int fault;
        int place;
        private boolean wearTold;
        private int at;
        private int start;
        private int kind;
        private int value;

        void begin() {
            plan.forget();
            setup.forget();
            wearTold = false;
            fault = 0;
            place = 0;
            at = 0;
        }

        private boolean fail(int why) {
            fault = why;
            place = start;
            return false;
        }

        private boolean nextToken() {
            while (at < tape.length && tape.bytes[at] == ' ') {
                at++;
            }
            start = at;
            kind = kindAt(at);
            if (kind == NAME || kind == NUMBER) {
                while (at < tape.length && kindAt(at) == kind) {
                    at++;
                }
            } else if (kind == SEMICOLON) {
                at++;
            }
            boolean tooLong = kind == NUMBER && at - start > MOST_FIGURES;
            return (kind != NOTHING && !tooLong) || fail(NO_TOKEN);
        }

        /** What kind of token a byte belongs to. */
        private int kindAt(int i) {
            if (i >= tape.length) {
                return END;
            }
            int b = tape.bytes[i];
            if (b >= 'a' && b <= 'z') {
                return NAME;
            }
            if (b >= '0' && b <= '9') {
                return NUMBER;
            }
            return b == ';' ? SEMICOLON : NOTHING;
        }

        private int numberRead() {
            int number = 0;
            for (int i = start; i < at; i++) {
                number = number * 10 + tape.bytes[i] - '0';
            }
            return number;
        }

        private boolean isNamed(String name) {
            if (at - start != name.length()) {
                return false;
            }
            for (int i = 0; i < name.length(); i++) {
                if (tape.bytes[start + i] != name.charAt(i)) {
                    return false;
                }
            }
            return true;
        }

        private boolean needs(int wanted) {
            return nextToken() && (kind == wanted || fail(MISPLACED));
        }

        private boolean needsNumber(int least, int most) {
            if (!nextToken()) {
                return false;
            }
            if (kind != NUMBER) {
                return fail(MISPLACED);
            }
            value = numberRead();
            return (value >= least && value <= most) || fail(OUT_OF_BOUNDS);
        }

        /** Whether there was one more line; if not, the text is at its end, or has a fault. */
        boolean readLine() {
            if (!nextToken()) {
                return false;
            }
            if (kind == END) {
                if (!allPartsAreThere()) {
                    fail(MISSING);
                }
                return false;
            }
            if (kind != NAME) {
                return fail(MISPLACED);
            }
            if (isNamed("roof")) {
                return readRoof();
            }
            if (isNamed("peg")) {
                return readPeg();
            }
            if (isNamed("spout")) {
                return readSpout();
            }
            if (isNamed("rain")) {
                return readRain();
            }
            if (isNamed("tune")) {
                return readTune();
            }
            if (isNamed("sleep")) {
                return readSleep();
            }
            if (isNamed("wear")) {
                return readWear();
            }
            return fail(MISPLACED);
        }

        private boolean readRoof() {
            int r = plan.roofs;
            if (r >= ROOFS) {
                return fail(TOO_MANY);
            }
            if (!needsNumber(1, MOST_AREA)) {
                return false;
            }
            plan.areas[r] = value;
            if (!needsNumber(0, GUTTERS - 1)) {
                return false;
            }
            plan.roofGutters[r] = value;
            plan.roofs++;
            return needs(SEMICOLON);
        }

        private boolean readPeg() {
            int g = plan.gutters;
            if (g >= GUTTERS) {
                return fail(TOO_MANY);
            }
            if (!readWay(g)) {
                return false;
            }
            plan.left[g] = value;
            if (!readWay(g)) {
                return false;
            }
            plan.right[g] = value;
            plan.gutters++;
            return needs(SEMICOLON);
        }

        /** The value becomes the way, as gutter() answers it. */
        private boolean readWay(int g) {
            if (!needs(NAME)) {
                return false;
            }
            if (isNamed("gutter")) {
                return needsNumber(g + 1, GUTTERS - 1);
            }
            if (isNamed("spout")) {
                boolean fine = needsNumber(0, SPOUTS - 1);
                value += SPOUT_WAY;
                return fine;
            }
            if (isNamed("ground")) {
                value = GROUND_WAY;
                return true;
            }
            return fail(MISPLACED);
        }

        private boolean readSpout() {
            int s = plan.spouts;
            if (s >= SPOUTS) {
                return fail(TOO_MANY);
            }
            if (!needsNumber(0, SPOUTS - 1)) {
                return false;
            }
            plan.tones[s] = value;
            if (!readCup(s)) {
                return false;
            }
            plan.spouts++;
            return needs(SEMICOLON);
        }

        private boolean readCup(int s) {
            if (!needs(NAME)) {
                return false;
            }
            int cupKind = namedKind();
            if (cupKind == NONE) {
                return fail(MISPLACED);
            }
            setup.kinds[s] = cupKind;
            if (!hasSize(cupKind)) {
                return true;
            }
            if (!needsNumber(1, MOST_SIZE)) {
                return false;
            }
            plan.sizes[s] = value;
            if (cupKind != JOIN) {
                return true;
            }
            if (!needsNumber(0, SPOUTS - 1)) {
                return false;
            }
            plan.others[s] = value;
            return value != s || fail(OUT_OF_BOUNDS);
        }

        private int namedKind() {
            if (isNamed("slate")) {
                return SLATE;
            }
            if (isNamed("tip")) {
                return TIP;
            }
            if (isNamed("leak")) {
                return LEAK;
            }
            if (isNamed("each")) {
                return EACH;
            }
            if (isNamed("join")) {
                return JOIN;
            }
            return isNamed("frozen") ? FROZEN : NONE;
        }

        private boolean readRain() {
            int w = plan.showers;
            if (w >= SHOWERS) {
                return fail(TOO_MANY);
            }
            int seconds = readSeconds(setup.rains[w], MOST_RAIN);
            setup.lengths[w] = seconds;
            plan.showers++;
            return seconds > 0;
        }

        private boolean readTune() {
            if (setup.tuneSeconds > 0) {
                return fail(AGAIN);
            }
            setup.tuneSeconds = readSeconds(setup.tune, MOST_TONES);
            return setup.tuneSeconds > 0;
        }

        /** Reads numbers and the sign behind them: how many; 0 by a fault. */
        private int readSeconds(int[] row, int most) {
            if (!needsNumber(0, most)) {
                return 0;
            }
            row[0] = value;
            for (int i = 1; i <= SECONDS; i++) {
                if (!nextToken()) {
                    return 0;
                }
                if (kind == SEMICOLON) {
                    return i;
                }
                if (!isSecond(i, most)) {
                    return 0;
                }
                row[i] = value;
            }
            return 0;
        }

        /** Whether the token may be second i of a row; one that is faulty twice has the fault of the lower number. */
        private boolean isSecond(int i, int most) {
            if (kind != NUMBER) {
                return fail(MISPLACED);
            }
            value = numberRead();
            if (value > most) {
                return fail(OUT_OF_BOUNDS);
            }
            return i < SECONDS || fail(TOO_MANY);
        }

        private boolean readSleep() {
            int p = plan.sleepers;
            if (p >= SLEEPERS) {
                return fail(TOO_MANY);
            }
            if (!needsNumber(0, SECONDS - 1)) {
                return false;
            }
            plan.sleepsFrom[p] = value;
            if (!needsNumber(value, SECONDS - 1)) {
                return false;
            }
            plan.sleepsTo[p] = value;
            if (!needsNumber(1, MOST_LOUD)) {
                return false;
            }
            plan.wakesAt[p] = value;
            plan.sleepers++;
            return needs(SEMICOLON);
        }

        private boolean readWear() {
            if (wearTold) {
                return fail(AGAIN);
            }
            wearTold = true;
            if (!needsNumber(0, MOST_WEAR)) {
                return false;
            }
            plan.wear = value;
            return needs(SEMICOLON);
        }

        private boolean allPartsAreThere() {
            for (int r = 0; r < plan.roofs; r++) {
                if (plan.roofGutters[r] >= plan.gutters) {
                    return false;
                }
            }
            for (int g = 0; g < plan.gutters; g++) {
                if (!isThere(plan.left[g]) || !isThere(plan.right[g])) {
                    return false;
                }
            }
            for (int s = 0; s < plan.spouts; s++) {
                if (setup.kinds[s] == JOIN && plan.others[s] >= plan.spouts) {
                    return false;
                }
            }
            return true;
        }

        private boolean isThere(int way) {
            if (way < GUTTERS) {
                return way < plan.gutters;
            }
            return way == GROUND_WAY || way - SPOUT_WAY < plan.spouts;
        }
    }
}
