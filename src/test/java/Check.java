import java.nio.charset.StandardCharsets;

/** What the tests share: answers compared with those that are due, texts fed to an organ. */
final class Check {
    static final int BAD = -1, STATE = -2, FULL = -3, NONE = -4;
    private static int wrong = 0;
    private static int asked = 0;
    private static int sentences = 0;
    private static int askedAhead = 0;
    private static String sentence = "";

    private Check() {
    }

    /** The next answers are about this sentence of the document, told in its own words. */
    static void says(String words) {
        endSentence();
        sentence = words;
        sentences++;
    }

    /** A sentence that no answer is about is not tested. */
    private static void endSentence() {
        if (!sentence.isEmpty() && asked == askedAhead) {
            wrong++;
            System.out.println("nothing was asked about '" + sentence + "'");
        }
        askedAhead = asked;
        sentence = "";
    }

    static void due(String call, long got, long want) {
        asked++;
        if (got != want) {
            wrong++;
            String about = sentence.isEmpty() ? "" : " (the document: '" + sentence + "')";
            System.out.println(call + " answered " + got + ", due is " + want + about);
        }
    }

    /** All of a call's answers, what 0, 1, 2 and so on. */
    static void dues(String call, int[] got, int... want) {
        due(call + ": how many", got.length, want.length);
        for (int i = 0; i < Math.min(got.length, want.length); i++) {
            due(call + " [" + i + "]", got[i], want[i]);
        }
    }

    static void finish(String test) {
        endSentence();
        String about = sentences == 0 ? "" : " about " + sentences + " sentences";
        System.out.println(test + ": " + asked + " answers" + about + ", " + wrong + " not as due");
        if (wrong != 0 || asked == 0) {
            System.exit(1);
        }
    }

    /** Feeds a text (signs 0 to 255), behind what the tape has, cut to its own length. */
    static void feed(RainOrgan x, String text) {
        byte[] bytes = text.getBytes(StandardCharsets.ISO_8859_1);
        int had = x.count(3);
        for (int at = 0; at < bytes.length; at += 8) {
            long v = 0;
            for (int i = at; i < at + 8; i++) {
                v = v << 8 | (i < bytes.length ? bytes[i] & 255 : 32);
            }
            if (x.feed(v) < 0) {
                throw new IllegalStateException("the text is too long for the tape: " + text);
            }
        }
        x.end(had + bytes.length);
    }

    /** A new organ, as told. */
    static RainOrgan told(String text) {
        RainOrgan x = new RainOrgan();
        tell(x, text);
        return x;
    }

    static void tell(RainOrgan x, String text) {
        feed(x, text);
        int lines = x.organ();
        if (lines < 0) {
            throw new IllegalStateException("fault " + x.fault() + " at " + (-10 - lines) + " of " + text);
        }
    }
}
