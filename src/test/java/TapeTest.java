/** Promise 1: a new object (the tape of it); promise 2: feed. */
public final class TapeTest {
    private static final int BLANKS = 0x20202020;

    public static void main(String[] args) {
        Due due = new Due("TapeTest");
        growsByTwenty(due);
        highestByteComesFirst(due);
        newBytesComeBehind(due);
        bytesAboveAsciiAreBytes(due);
        due.end();
    }

    private static int blanks(EvenGranary x) {
        return x.feed(BLANKS, BLANKS, BLANKS, BLANKS, BLANKS);
    }

    private static void growsByTwenty(Due due) {
        EvenGranary x = new EvenGranary();
        due.is("tape at first", 0, x.count(5));
        due.is("first feed", 20, blanks(x));
        due.is("tape", 20, x.count(5));
        due.is("second feed", 40, blanks(x));
        due.is("third feed", 60, blanks(x));
        due.is("fourth feed", EvenGranary.NONE, blanks(x));
        due.is("tape stays", 60, x.count(5));
        due.is("edict of blanks", 100, x.edict(60));
        due.is("tape is empty then", 0, x.count(5));
        due.is("feed goes on", 20, blanks(x));
    }

    private static void highestByteComesFirst(Due due) {
        EvenGranary x = new EvenGranary();
        // "b123" "4;n5" "678;" "s90;" "m012"
        x.feed(0x62313233, 0x343b6e35, 0x3637383b, 0x7339303b, 0x6d303132);
        due.is("edict over five ints", 0, x.edict(20));
        due.is("b", 1234, x.rule('b'));
        due.is("n", 5678, x.rule('n'));
        due.is("s", 90, x.rule('s'));
        due.is("m", 12, x.rule('m'));
    }

    private static void newBytesComeBehind(Due due) {
        EvenGranary x = new EvenGranary();
        String text = "b1;b2;b3;b4;b5;b6;b7;n1;n2;n3;n4;n5;n6;n7;s11;s22;m3333;m444";
        due.is("length of the text", 60, text.length());
        Due.feed(x, text);
        due.is("tape", 60, x.count(5));
        due.is("edict of the whole tape", 0, x.edict(60));
        due.is("b", 7, x.rule('b'));
        due.is("n", 7, x.rule('n'));
        due.is("s", 22, x.rule('s'));
        due.is("m", 444, x.rule('m'));
    }

    private static void bytesAboveAsciiAreBytes(Due due) {
        EvenGranary x = new EvenGranary();
        due.is("feed of high bytes", 20, x.feed(-1, Integer.MIN_VALUE, Integer.MAX_VALUE, 0, 128));
        due.is("edict of high bytes", 100, x.edict(1));
        x.feed(0x6231ff20, 0, 0, 0, 0);
        due.is("high byte behind a clause", 502, x.edict(3));
        x.feed(0x62ff3120, 0, 0, 0, 0);
        due.is("high byte for a digit", 201, x.edict(3));
        x.feed(0x62310020, 0, 0, 0, 0);
        due.is("byte 0 behind a clause", 502, x.edict(3));
        x.feed(0xe2312020, 0, 0, 0, 0);
        due.is("a letter with its highest bit set", 100, x.edict(2));
    }
}
