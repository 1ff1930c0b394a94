/** THE EDICT, sentence by sentence: its CLAUSES, first numbers, bounds and FAULTS, and what its least and most numbers do. */
public final class EdictEdgesTest {
    private static final int NONE = EvenGranary.NONE;
    private static final String LETTERS = "bnsmlapo";

    public static void main(String[] args) {
        Due due = new Due("EdictEdgesTest");
        bounds(due);
        leastAndMostOfBuying(due);
        leastAndMostOfSelling(due);
        leastAndMostOfLoans(due);
        leastAndMostOfSpoiling(due);
        leastAndMostOfTurningOver(due);
        clausesAndSemicolons(due);
        oneToFourDigits(due);
        noBlanks(due);
        unsaidIsAsAtFirst(due);
        laterClauseCounts(due);
        fromTheNextMonthOn(due);
        firstFaultFromTheLeft(due);
        noSuchLetter(due);
        noDigit(due);
        fifthDigit(due);
        wrongNumber(due);
        somethingElseBehind(due);
        due.end();
    }

    private static void text(Due due, String text, int want) {
        due.is("edict \"" + text + "\"", want, Due.edict(new EvenGranary(), text));
    }

    private static void bounds(Due due) {
        range(due, "b PRICE at which, or below, STORES buy (0 to 9999; 100 at first)", 'b', 0, 9999, 100);
        range(due, "n measures at most in a MONTH (100)", 'n', 0, 9999, 100);
        range(due, "s PRICE at which, or above, they sell (400)", 's', 0, 9999, 400);
        range(due, "m measures at most (200)", 'm', 0, 9999, 200);
        range(due, "l hundredths that a LOAN comes to (100 to 9999; 110)", 'l', 100, 9999, 110);
        range(due, "a MONTHS from which on a LOT spoils (1 to 999; 24)", 'a', 1, 999, 24);
        range(due, "p hundredths of it that spoil in a MONTH (0 to 100; 5)", 'p', 0, 100, 5);
        range(due, "o the part that is turned over each year: one o-th (0: nothing; 3)", 'o', 0, 9999, 3);
    }

    private static void range(Due due, String sentence, char letter, int least, int most, int atFirst) {
        due.of(sentence);
        EvenGranary x = new EvenGranary();
        due.is("at first", atFirst, x.rule(letter));
        due.is("least", 0, Due.edict(x, letter + "" + least));
        due.is("rule", least, x.rule(letter));
        due.is("most", 0, Due.edict(x, letter + "" + most));
        due.is("rule", most, x.rule(letter));
        if (least > 0) {
            due.is("below the least", 401, Due.edict(x, letter + "" + (least - 1)));
        }
        due.is("above the most", most == 9999 ? 305 : 401, Due.edict(x, letter + "" + (most + 1)));
        due.is("rule stays", most, x.rule(letter));
    }

    /** What is bought in the next month, by an edict, of a market of 2000, at a price of 1000 * eats / (2000 + eats). */
    private static long bought(String edict, int eats) {
        EvenGranary x = Realms.held(edict, eats, 2000, 50000, 0);
        x.coin(1000000000);
        x.step(1);
        return x.look(0, 10);
    }

    private static void leastAndMostOfBuying(Due due) {
        due.of("b PRICE at which, or below, STORES buy");
        due.is("b0 at price 0", 7, bought("b0;n7;s9999;o0", 1));
        due.is("b0 at price 1", 0, bought("b0;n7;s9999;o0", 3));
        due.is("b1 at price 1", 7, bought("b1;n7;s9999;o0", 3));
        due.is("b332 at price 333", 0, bought("b332;n7;s9999;o0", 1000));
        due.is("b333 at price 333", 7, bought("b333;n7;s9999;o0", 1000));
        due.is("b9999 at price 333", 7, bought("b9999;n7;s9999;o0", 1000));
        due.of("n measures at most in a MONTH");
        due.is("n0", 0, bought("b9999;n0;o0", 1));
        due.is("n1", 1, bought("b9999;n1;o0", 1));
        due.is("n9999 of 2000", 2000, bought("b9999;n9999;o0", 1));
        EvenGranary x = Realms.held("b9999;n9999;o0", 1, 90000, 50000, 0);
        x.step(1);
        due.is("n9999 of 90000", 9999, x.look(0, 10));
    }

    /** What is sold in the next month, by an edict, of 50 measures, at a price of 10000 / (market + 10). */
    private static long sold(String edict, int market) {
        EvenGranary x = Realms.held(edict, 10, market, 50, 50);
        x.step(1);
        return x.look(0, 11);
    }

    private static void leastAndMostOfSelling(Due due) {
        due.of("s PRICE at which, or above, they sell");
        due.is("s0 at price 1", 7, sold("b0;s0;m7;p0;o0", 9990));
        due.is("s0 at price 0, that is b", 0, sold("b0;s0;m7;p0;o0", 9991));
        due.is("s1000 at price 1000", 7, sold("b0;s1000;m7;p0;o0", 0));
        due.is("s1000 at price 909", 0, sold("b0;s1000;m7;p0;o0", 1));
        due.is("s909 at price 909", 7, sold("b0;s909;m7;p0;o0", 1));
        due.is("s910 at price 909", 0, sold("b0;s910;m7;p0;o0", 1));
        due.is("s1001 at price 1000", 0, sold("b0;s1001;m7;p0;o0", 0));
        due.is("s9999 at price 1000", 0, sold("b0;s9999;m7;p0;o0", 0));
        due.of("m measures at most");
        due.is("m0", 0, sold("b0;s0;m0;p0;o0", 0));
        due.is("m1", 1, sold("b0;s0;m1;p0;o0", 0));
        due.is("m49 of 50", 49, sold("b0;s0;m49;p0;o0", 0));
        due.is("m50 of 50", 50, sold("b0;s0;m50;p0;o0", 0));
        due.is("m51 of 50", 50, sold("b0;s0;m51;p0;o0", 0));
        due.is("m9999 of 50", 50, sold("b0;s0;m9999;p0;o0", 0));
    }

    private static long owes(String edict, int n) {
        EvenGranary x = Realms.held(edict, 10, 0, 5000, 5000);
        return x.loan(0, n);
    }

    private static void leastAndMostOfLoans(Due due) {
        due.of("l hundredths that a LOAN comes to");
        due.is("l100 of 1", 1, owes("l100", 1));
        due.is("l100 of 5000", 5000, owes("l100", 5000));
        due.is("l9999 of 1", 100, owes("l9999", 1));
        due.is("l9999 of 100", 9999, owes("l9999", 100));
        due.is("l9999 of 5000", 499950, owes("l9999", 5000));
    }

    private static long spoilt(String edict, int months) {
        EvenGranary x = Realms.held(edict, 1, 9000, 10, 10);
        Realms.months(x, months);
        return x.look(0, 8);
    }

    private static void leastAndMostOfSpoiling(Due due) {
        due.of("a MONTHS from which on a LOT spoils");
        due.is("a1 in month 2", 1, spoilt("n0;a1;p1;o0", 1));
        due.is("a2 in month 2", 0, spoilt("n0;a2;p1;o0", 1));
        due.is("a2 in month 3", 1, spoilt("n0;a2;p1;o0", 2));
        due.is("24 at first: in month 24", 0, spoilt("n0;o0", 23));
        due.is("24 at first: in month 25", 1, spoilt("n0;o0", 24));
        due.is("a999 in month 999", 0, spoilt("n0;a999;p1;o0", 998));
        due.is("a999 in month 1000", 1, spoilt("n0;a999;p1;o0", 999));
        due.of("p hundredths of it that spoil in a MONTH");
        due.is("p0", 0, spoilt("n0;a1;p0;o0", 24));
        due.is("p1", 1, spoilt("n0;a1;p1;o0", 1));
        due.is("p99", 10, spoilt("n0;a1;p99;o0", 1));
        due.is("p90", 9, spoilt("n0;a1;p90;o0", 1));
        due.is("p100", 10, spoilt("n0;a1;p100;o0", 1));
    }

    /** How many of ten measures are of month 12 when it is there. */
    private static long turnedOver(String edict) {
        EvenGranary x = Realms.held(edict, 1, 9000, 10, 10);
        x.step(11);
        int last = (int) x.look(0, 4) - 1;
        return x.lot(0, last, 0) == 12 ? x.lot(0, last, 1) : 0;
    }

    private static void leastAndMostOfTurningOver(Due due) {
        due.of("one o-th (0: nothing; 3)");
        due.is("o0", 0, turnedOver("n0;p0;o0"));
        due.is("o1", 10, turnedOver("n0;p0;o1"));
        due.is("o2", 5, turnedOver("n0;p0;o2"));
        due.is("3 at first", 4, turnedOver("n0;p0"));
        due.is("o9999", 1, turnedOver("n0;p0;o9999"));
    }

    private static void clausesAndSemicolons(Due due) {
        due.of("CLAUSES with a ; (59) between two, each a letter and a number of one to four digits");
        text(due, "b1", 0);
        text(due, "b1;n2", 0);
        text(due, "b1;n2;s3;m4;l100;a6;p7;o8", 0);
        text(due, "b1n2", 502);
        text(due, "b1;;n2", 103);
        text(due, ";b1", 100);
        text(due, "b1;", 103);
        text(due, "", 100);
        due.is("thirty bytes that tell ten times the same", 0, Due.edict(new EvenGranary(), "b1;b1;b1;b1;b1;b1;b1;b1;b1;b11"));
    }

    private static void oneToFourDigits(Due due) {
        due.of("a number of one to four digits");
        text(due, "b", 201);
        text(due, "b0", 0);
        text(due, "b00", 0);
        text(due, "b0000", 0);
        text(due, "b00000", 305);
        text(due, "a0001", 0);
        text(due, "a00001", 305);
        EvenGranary x = new EvenGranary();
        Due.edict(x, "b0042;n0900");
        due.is("0042", 42, x.rule('b'));
        due.is("0900", 900, x.rule('n'));
    }

    private static void noBlanks(Due due) {
        due.of("no blanks");
        text(due, " b1", 100);
        text(due, "b 1", 201);
        text(due, "b1 ", 502);
        text(due, "b1 ;n1", 502);
        text(due, "b1; n1", 103);
        text(due, "b1 2", 502);
        text(due, "b1234 ", 505);
    }

    private static void unsaidIsAsAtFirst(Due due) {
        due.of("What no CLAUSE tells is as at first");
        int[] first = {100, 100, 400, 200, 110, 24, 5, 3};
        for (int told = 0; told < LETTERS.length(); told++) {
            EvenGranary x = Realms.with("b1;n2;s3;m4;l105;a6;p7;o8");
            Due.edict(x, LETTERS.charAt(told) + "100");
            for (int i = 0; i < LETTERS.length(); i++) {
                due.is("rule " + LETTERS.charAt(i) + " where " + LETTERS.charAt(told) + " is told", i == told ? 100 : first[i], x.rule(LETTERS.charAt(i)));
            }
        }
    }

    private static void laterClauseCounts(Due due) {
        due.of("the later one of a letter counts");
        EvenGranary x = Realms.with("b1;b9999;b0;n5;b7;n6");
        due.is("rule b", 7, x.rule('b'));
        due.is("rule n", 6, x.rule('n'));
        due.is("an earlier one must be right all the same", 401, Due.edict(x, "a0;a5"));
    }

    private static void fromTheNextMonthOn(Due due) {
        due.of("It is in force from the next MONTH on.");
        EvenGranary x = Realms.lots(1, 10);
        Due.edict(x, "n30;l200;p0;o0");
        due.is("rule at once", 30, x.rule('n'));
        due.is("bought before", 10, x.look(0, 10));
        due.is("a loan before the month", 10, x.loan(0, 5));
        x.step(1);
        due.is("bought in the next", 40, x.look(0, 10));
        x.step(1);
        due.is("bought in that behind it", 70, x.look(0, 10));
        Due.edict(x, "n1;p0;o0");
        Due.edict(x, "n2;p0;o0");
        x.step(1);
        due.is("bought by the last that was told before the month", 72, x.look(0, 10));
        Due.edict(x, "n5000;n50000");
        x.step(1);
        due.is("bought behind one with a fault", 74, x.look(0, 10));
    }

    private static void firstFaultFromTheLeft(Due due) {
        due.of("FAULTS, the first from the left");
        text(due, "x", 100);
        text(due, "b;x", 201);
        text(due, "b12345;x", 305);
        text(due, "a0;x", 401);
        text(due, "b1x;x", 502);
        text(due, "b1;x;b;a0", 103);
        text(due, "b1;b;x;a0", 204);
        text(due, "b1;b12345;x", 308);
        text(due, "b1;a0;b12345", 404);
        text(due, "b1;b1!x;a0", 505);
        text(due, "a0x", 401);
        text(due, "a00000", 305);
    }

    private static void noSuchLetter(Due due) {
        due.of("1 no such letter there (the end, too)");
        for (int c = 0; c < 256; c++) {
            text(due, (char) c + "100", LETTERS.indexOf(c) >= 0 ? 0 : 100);
        }
        text(due, "", 100);
        text(due, "b1;", 103);
        text(due, "b1234;", 106);
        text(due, "b1;b2;b3;b4;b5;b6;b7;n1;n2;n3;n4;n5;n6;n7;s11;s22;m3333;m44;", 160);
    }

    private static void noDigit(Due due) {
        due.of("2 no digit there");
        for (int c = 0; c < 256; c++) {
            text(due, "b" + (char) c, c >= '0' && c <= '9' ? 0 : 201);
        }
        text(due, "b", 201);
        text(due, "b1;n", 204);
        text(due, "b1;b2;b3;b4;b5;b6;b7;n1;n2;n3;n4;n5;n6;n7;s11;s22;m3333;m4;b", 260);
    }

    private static void fifthDigit(Due due) {
        due.of("3 a fifth digit, at it");
        text(due, "b1234", 0);
        text(due, "b12345", 305);
        text(due, "b123456", 305);
        text(due, "b1;n12345", 308);
        text(due, "p00101", 305);
        text(due, "l00099", 305);
    }

    private static void wrongNumber(Due due) {
        due.of("4 a number that it can't be, at its first digit (asked when its digits end)");
        text(due, "l99", 401);
        text(due, "l099", 401);
        text(due, "l0", 401);
        text(due, "a0", 401);
        text(due, "a0000", 401);
        text(due, "a1000", 401);
        text(due, "p101", 401);
        text(due, "p0101", 401);
        text(due, "p9999", 401);
        text(due, "a0x", 401);
        text(due, "p101;", 401);
        text(due, "b1;l99;n1", 404);
        text(due, "l9", 401);
        text(due, "l999", 0);
        EvenGranary x = new EvenGranary();
        Due.feed(x, "l9999");
        due.is("l99, for its digits end where the text does", 401, x.edict(3));
    }

    private static void somethingElseBehind(Due due) {
        due.of("5 something else than ; or the end behind a CLAUSE");
        for (int c = 0; c < 256; c++) {
            boolean isDigit = c >= '0' && c <= '9';
            text(due, "b1" + (char) c + "n1", c == ';' ? 0 : isDigit ? 503 : 502);
        }
        text(due, "b1234x", 505);
        text(due, "b1;n22x", 506);
        text(due, "b1;b2;b3;b4;b5;b6;b7;n1;n2;n3;n4;n5;n6;n7;s11;s22;m3333;m44x", 559);
        EvenGranary x = new EvenGranary();
        Due.feed(x, "b1x");
        due.is("the end before it", 0, x.edict(2));
        due.is("rule(" + 'b' + ")", 1, x.rule('b'));
        due.is("rule of x", NONE, x.rule('x'));
    }
}
