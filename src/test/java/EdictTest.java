/** Promise 3: edict; promise 4: rule. */
public final class EdictTest {
    private static final String LETTERS = "bnsmlapo";
    private static final int[] FIRST = {100, 100, 400, 200, 110, 24, 5, 3};
    private static final int[] LEAST = {0, 0, 0, 0, 100, 1, 0, 0};
    private static final int[] MOST = {9999, 9999, 9999, 9999, 9999, 999, 100, 9999};

    public static void main(String[] args) {
        Due due = new Due("EdictTest");
        numbersAtFirst(due);
        everyLetter(due);
        everyRange(due);
        laterClauseCounts(due);
        unsaidIsAsAtFirst(due);
        faults(due);
        faultLeavesTheEdict(due);
        onlyTheFirstBytes(due);
        notSoMany(due);
        due.end();
    }

    private static void isAsAtFirst(Due due, String when, EvenGranary x) {
        for (int i = 0; i < LETTERS.length(); i++) {
            due.is(when + ", rule " + LETTERS.charAt(i), FIRST[i], x.rule(LETTERS.charAt(i)));
        }
    }

    private static void numbersAtFirst(Due due) {
        EvenGranary x = new EvenGranary();
        isAsAtFirst(due, "at first", x);
        for (int letter = -300; letter <= 600; letter++) {
            if (letter < 0 || LETTERS.indexOf(letter) < 0) {
                due.is("rule(" + letter + ")", EvenGranary.NONE, x.rule(letter));
            }
        }
        due.is("rule of b and 65536", EvenGranary.NONE, x.rule('b' + 65536));
        due.is("rule of the least int", EvenGranary.NONE, x.rule(Integer.MIN_VALUE));
        due.is("rule of the greatest int", EvenGranary.NONE, x.rule(Integer.MAX_VALUE));
    }

    private static void everyLetter(Due due) {
        EvenGranary x = new EvenGranary();
        due.is("edict with all", 0, Due.edict(x, "o14;p13;a12;l111;m10;s9;n8;b7"));
        int[] want = {7, 8, 9, 10, 111, 12, 13, 14};
        for (int i = 0; i < want.length; i++) {
            due.is("rule " + LETTERS.charAt(i), want[i], x.rule(LETTERS.charAt(i)));
        }
    }

    private static void everyRange(Due due) {
        EvenGranary x = new EvenGranary();
        for (int i = 0; i < LETTERS.length(); i++) {
            char letter = LETTERS.charAt(i);
            due.is("least of " + letter, 0, Due.edict(x, "" + letter + LEAST[i]));
            due.is("rule " + letter, LEAST[i], x.rule(letter));
            due.is("most of " + letter, 0, Due.edict(x, "" + letter + MOST[i]));
            due.is("rule " + letter, MOST[i], x.rule(letter));
            if (LEAST[i] > 0) {
                due.is("below the least of " + letter, 401, Due.edict(x, "" + letter + (LEAST[i] - 1)));
            }
            due.is("above the most of " + letter, MOST[i] == 9999 ? 305 : 401, Due.edict(x, "" + letter + (MOST[i] + 1)));
            due.is("rule stays " + letter, MOST[i], x.rule(letter));
        }
        due.is("zeros before", 0, Due.edict(x, "b0007;l0100;a0001"));
        due.is("rule b", 7, x.rule('b'));
        due.is("rule l", 100, x.rule('l'));
        due.is("rule a", 1, x.rule('a'));
    }

    private static void laterClauseCounts(Due due) {
        EvenGranary x = new EvenGranary();
        due.is("twice b", 0, Due.edict(x, "b1;n2;b3"));
        due.is("rule b", 3, x.rule('b'));
        due.is("rule n", 2, x.rule('n'));
    }

    private static void unsaidIsAsAtFirst(Due due) {
        EvenGranary x = new EvenGranary();
        Due.edict(x, "b1;n2;s3;m4;l105;a6;p7;o8");
        due.is("second edict", 0, Due.edict(x, "p9"));
        due.is("rule p", 9, x.rule('p'));
        due.is("another edict", 0, Due.edict(x, "p5"));
        isAsAtFirst(due, "all as at first again", x);
    }

    private static void fault(Due due, String text, int want) {
        due.is("edict \"" + text + "\"", want, Due.edict(new EvenGranary(), text));
    }

    private static void faults(Due due) {
        fault(due, "", 100);
        fault(due, "B1", 100);
        fault(due, ";b1", 100);
        fault(due, " b1", 100);
        fault(due, "1", 100);
        fault(due, "b1;", 103);
        fault(due, "b1;;n2", 103);
        fault(due, "b1; n2", 103);
        fault(due, "b1234;c1", 106);
        fault(due, "b", 201);
        fault(due, "b;", 201);
        fault(due, "bb1", 201);
        fault(due, "b-1", 201);
        fault(due, "b 1", 201);
        fault(due, "b1;n", 204);
        fault(due, "b1;n;s3", 204);
        fault(due, "b/", 201);
        fault(due, "b:", 201);
        fault(due, "b12345", 305);
        fault(due, "b00000", 305);
        fault(due, "b123456", 305);
        fault(due, "l00001", 305);
        fault(due, "b1;n99999;q", 308);
        fault(due, "p101", 401);
        fault(due, "p0101", 401);
        fault(due, "l99x", 401);
        fault(due, "b1;a0;z", 404);
        fault(due, "b1;a1000", 404);
        fault(due, "b1x", 502);
        fault(due, "b1n2", 502);
        fault(due, "b1 ", 502);
        fault(due, "b1 ;n2", 502);
        fault(due, "b1234:", 505);
        fault(due, "b1,n2", 502);
        fault(due, "b1;n22/", 506);
        fault(due, "b1;b2;b3;b4;b5;b6;b7;n1;n2;n3;n4;n5;n6;n7;s11;s22;m3333;m44x", 559);
        fault(due, "b1;b2;b3;b4;b5;b6;b7;n1;n2;n3;n4;n5;n6;n7;s11;s22;m3333;m44;", 160);
    }

    private static void faultLeavesTheEdict(Due due) {
        EvenGranary x = new EvenGranary();
        Due.edict(x, "b77;o6");
        due.is("fault in the second clause", 103, Due.edict(x, "b1;x2"));
        due.is("tape is empty then", 0, x.count(5));
        due.is("rule b stays", 77, x.rule('b'));
        due.is("rule o stays", 6, x.rule('o'));
    }

    private static void onlyTheFirstBytes(Due due) {
        EvenGranary x = new EvenGranary();
        Due.feed(x, "b12;n34;s56");
        due.is("edict of two clauses", 0, x.edict(7));
        due.is("the rest is gone", 0, x.count(5));
        due.is("rule b", 12, x.rule('b'));
        due.is("rule n", 34, x.rule('n'));
        due.is("rule s", 400, x.rule('s'));
        Due.feed(x, "b12345");
        due.is("four of five digits", 0, x.edict(5));
        due.is("rule b", 1234, x.rule('b'));
        Due.feed(x, "b1");
        due.is("edict of nothing", 100, x.edict(0));
        due.is("the tape is empty then, too", 0, x.count(5));
    }

    private static void notSoMany(Due due) {
        EvenGranary x = new EvenGranary();
        due.is("edict(1) of no tape", EvenGranary.NONE, x.edict(1));
        due.is("edict(0) of no tape", 100, x.edict(0));
        Due.feed(x, "b55");
        due.is("edict(21)", EvenGranary.NONE, x.edict(21));
        due.is("edict(-1)", EvenGranary.NONE, x.edict(-1));
        due.is("edict of the least int", EvenGranary.NONE, x.edict(Integer.MIN_VALUE));
        due.is("edict of the greatest int", EvenGranary.NONE, x.edict(Integer.MAX_VALUE));
        due.is("the tape stays", 20, x.count(5));
        due.is("rule b stays", 100, x.rule('b'));
        due.is("edict(3)", 0, x.edict(3));
        due.is("rule b", 55, x.rule('b'));
    }
}
