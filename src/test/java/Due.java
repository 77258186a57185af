/** Counts answers, prints each that is not the one that is due, and ends a test. */
final class Due {
    static final long UNDEFINED = 1L << 33;
    static final long NULL = UNDEFINED + 1;
    static final long FALSE = UNDEFINED + 2;
    static final long TRUE = UNDEFINED + 3;
    static final long TYPE = UNDEFINED + 4;
    static final long RANGE = UNDEFINED + 5;

    static final int RETURNED = ObjectCore.RETURNED;
    static final int THROWN = ObjectCore.THROWN;
    static final int LONG = ObjectCore.LONG;
    static final int REFUSED = ObjectCore.REFUSED;
    static final int FULL = ObjectCore.FULL;

    private static int asked = 0;
    private static int wrong = 0;
    private static int sentences = 0;
    private static String sentence = "";
    private static int askedBefore = 0;

    private Due() {
    }

    static long object(int number) {
        return (1L << 34) + number;
    }

    /** The answers from here on are about these words of the document. */
    static void says(String words) {
        endSentence();
        sentences++;
        sentence = "\"" + words + "\" ";
        askedBefore = asked;
    }

    /** A sentence that nothing was asked about is not tested. */
    private static void endSentence() {
        if (!sentence.isEmpty() && asked == askedBefore) {
            wrong++;
            System.out.println(sentence + "has no test");
        }
    }

    static void is(String what, long got, long want) {
        asked++;
        if (got != want) {
            wrong++;
            System.out.println(sentence + what + ": answered " + got + ", due is " + want);
        }
    }

    static void is(String what, boolean got, boolean want) {
        is(what, got ? 1 : 0, want ? 1 : 0);
    }

    static void same(String what, String got, String want) {
        asked++;
        if (!got.equals(want)) {
            wrong++;
            System.out.println(sentence + what + ": is " + got + ", due is " + want);
        }
    }

    /** How a call, get or put has to end, and with what. */
    static void ends(String what, ObjectCore x, int got, int want, long result) {
        is(what, got, want);
        is(what + ", result", x.result(), result);
    }

    static void end(String test) {
        endSentence();
        String about = sentences == 0 ? "" : " about " + sentences + " sentences";
        System.out.println(test + ": " + asked + " answers" + about + ", " + wrong + " not as due");
        if (wrong != 0 || asked == 0) {
            System.exit(1);
        }
    }
}
