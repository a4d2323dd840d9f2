import java.lang.management.ManagementFactory;

/** All calls of one run live in one room: no call may make objects, and a new object stays small. */
public final class RoomTest {
    private static final String ORGAN = "roof 3 0;roof 2 1;peg gutter 1 spout 0;peg spout 1 spout 2;spout 0 slate;spout 1 tip 3;"
            + "spout 2 join 2 3;spout 3 leak 4;spout 4 each 2;rain 1 2 0 3 1;rain 4;tune 1 3 0 9;sleep 0 1 3;sleep 2 4 4;";

    public static void main(String[] args) {
        com.sun.management.ThreadMXBean bean = (com.sun.management.ThreadMXBean) ManagementFactory.getThreadMXBean();
        RainOrgan x = Check.told(ORGAN);
        long[] text = text();
        for (int i = 0; i < 3; i++) {
            everyCall(x, text);
        }
        long least = Long.MAX_VALUE;
        long before = 0;
        // the least of some tries: the machine's own work may fall into one of them
        for (int i = 0; i < 5; i++) {
            before = bean.getCurrentThreadAllocatedBytes();
            long probe = bean.getCurrentThreadAllocatedBytes();
            everyCall(x, text);
            least = Math.min(least, bean.getCurrentThreadAllocatedBytes() - probe - (probe - before));
        }
        Check.due("bytes made by all calls", least, 0);
        RainOrgan[] kept = new RainOrgan[100];
        before = bean.getCurrentThreadAllocatedBytes();
        for (int i = 0; i < kept.length; i++) {
            kept[i] = new RainOrgan();
        }
        long each = (bean.getCurrentThreadAllocatedBytes() - before) / kept.length;
        Check.due("a new object has at most 10000 bytes (" + each + ")", each <= 10000 ? 1 : 0, 1);
        Check.finish("RoomTest");
    }

    private static long[] text() {
        long[] row = new long[(ORGAN.length() + 7) / 8];
        for (int i = 0; i < 8 * row.length; i++) {
            row[i / 8] = row[i / 8] << 8 | (i < ORGAN.length() ? ORGAN.charAt(i) : ' ');
        }
        return row;
    }

    private static int everyCall(RainOrgan x, long[] text) {
        int sum = x.end(0);
        for (long v : text) {
            sum += x.feed(v);
        }
        if (x.organ() < 0) {
            throw new IllegalStateException("the text was not taken");
        }
        for (int a = -1; a <= 3; a++) {
            sum += x.feed(a) + x.end(a) + x.fault() + x.rule(a) + x.block(a, false) + x.settings(a) + x.rain(a) + x.water(a);
            sum += x.loud(a) + x.tune(a) + x.far(a) + x.all(a) + x.woken(a) + x.heard(a) + x.blocked(a) + x.frozen(a);
            sum += x.keep(a) + x.back(a) + x.torn() + x.count(a);
            for (int b = -1; b <= 3; b++) {
                sum += x.gutter(a, b) + x.spout(a, b) + x.peg(a, b) + x.cup(a, b) + x.shower(a, b) + x.plays(a, b);
                sum += x.falls(a, b) + x.tells(a, b) + x.best(a, b) + x.fewest(a, b) + x.quiet(a, b) + x.lasts(a, b);
                sum += x.draws(a, 5, 4, b) + x.sheet(a, b, 9) + x.lay(a, b, 9) + x.read(a, b, 2, 9);
            }
        }
        return sum + x.dry() + x.organ();
    }
}
