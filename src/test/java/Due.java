import java.util.function.LongUnaryOperator;

/** Compares answers with those that are due, and tells how a test ended. */
final class Due {
    private final String test;
    private String sentence = "";
    private int asked;
    private int askedBefore;
    private int wrong;

    Due(String test) {
        this.test = test;
    }

    /** Begins the test of one sentence of the document: the answers that follow are held against it. */
    void of(String words) {
        hasAnswers();
        sentence = " \"" + words + "\":";
        askedBefore = asked;
    }

    void is(String call, long want, long got) {
        asked++;
        if (got != want) {
            wrong++;
            System.out.println(test + ":" + sentence + " " + call + " answered " + got + ", due is " + want);
        }
    }

    void is(String call, boolean want, boolean got) {
        is(call, want ? 1L : 0L, got ? 1L : 0L);
    }

    /** A call is refused just beyond two bounds, and far beyond them, and taken just at them. */
    void bounds(String name, long least, long most, long refused, LongUnaryOperator call) {
        for (long n : new long[] {least - 1, most + 1, Integer.MIN_VALUE, Integer.MAX_VALUE}) {
            is(name + " " + n, refused, call.applyAsLong(n));
        }
        for (long n : new long[] {least, most}) {
            is(name + " " + n + " is taken", true, call.applyAsLong(n) != refused);
        }
    }

    /** The numbers of a lot: its month, its book and whether it was measured. */
    void lot(EvenGranary x, int t, int i, int... monthBookMeasured) {
        for (int what = 0; what < monthBookMeasured.length; what++) {
            is("lot(" + t + ", " + i + ", " + what + ")", monthBookMeasured[what], x.lot(t, i, what));
        }
    }

    /** Ends the test, with exit code 1 if an answer was wrong. */
    void end() {
        hasAnswers();
        System.out.println(test + ": " + asked + " answers, " + wrong + " wrong");
        if (wrong != 0 || asked == 0) {
            System.exit(1);
        }
    }

    private void hasAnswers() {
        if (!sentence.isEmpty() && asked == askedBefore) {
            wrong++;
            System.out.println(test + ":" + sentence + " nothing was asked");
        }
    }

    /** Feeds a text, filled up with blanks to twenties of bytes. */
    static void feed(EvenGranary x, String text) {
        for (int from = 0; from < text.length(); from += 20) {
            x.feed(word(text, from), word(text, from + 4), word(text, from + 8), word(text, from + 12), word(text, from + 16));
        }
    }

    /** Feeds a text and takes it as the edict. */
    static int edict(EvenGranary x, String text) {
        feed(x, text);
        return x.edict(text.length());
    }

    private static int word(String text, int from) {
        int word = 0;
        for (int i = from; i < from + 4; i++) {
            word = word << 8 | (i < text.length() ? text.charAt(i) & 255 : ' ');
        }
        return word;
    }
}
