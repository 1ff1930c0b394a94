/** 'Promise 1' to 'Promise 19', call by call: every bound that is named there, just at it and just beyond it. */
public final class CallEdgesTest {
    private static final int NONE = EvenGranary.NONE;
    private static final int BLANKS = 0x20202020;

    public static void main(String[] args) {
        Due due = new Due("CallEdgesTest");
        newObject(due);
        allCallsOfAnObject(due);
        feed(due);
        feedBytes(due);
        edict(due);
        edictEmptiesTheTape(due);
        rule(due);
        town(due);
        road(due);
        coin(due);
        harvest(due);
        step(due);
        stepToTheLastMonth(due);
        move(due);
        loan(due);
        steal(due);
        measure(due);
        missing(due);
        foretold(due);
        best(due);
        look(due);
        lot(due);
        count(due);
        due.end();
    }

    /** Town 0 with lots of 10 of the months 1 and 2; town 1, hungry, by road 0; town 2 apart. */
    private static EvenGranary realm() {
        EvenGranary x = Realms.lots(2, 10);
        x.town(5, 0, 100);
        x.town(1, 1000, 0);
        x.road(0, 1, 1, 15);
        return x;
    }

    private static void newObject(Due due) {
        due.of("No TOWNS, ROADS, COIN.");
        EvenGranary x = new EvenGranary();
        for (int what = 0; what <= 6; what++) {
            due.is("count(" + what + ")", 0, x.count(what));
        }
        due.is("look(0, 0)", NONE, x.look(0, 0));
        due.is("count(10)", NONE, x.count(10));
        due.is("road(0, 1, 1, 1)", NONE, x.road(0, 1, 1, 1));
        due.is("foretold(24)", 0, x.foretold(24));
        due.is("best(0, 1)", NONE, x.best(0, 1));
        due.is("step(1)", 1, x.step(1));
        EvenGranary y = realm();
        due.is("nothing comes over from another object", 0, x.count(1) + x.count(2));
        due.is("which has its own", 3, y.count(1));
    }

    private static void allCallsOfAnObject(Due due) {
        due.of("An object is used for at most 512 calls after it has been made");
        EvenGranary x = new EvenGranary();
        x.town(10, 0, 0);
        for (int call = 2; call < 512; call += 2) {
            due.is("call " + call, true, x.harvest(0, 11));
            due.is("call " + (call + 1), call / 2, x.step(1));
        }
        due.is("call 512", 255, x.look(0, 1));
    }

    private static void feed(Due due) {
        due.of("how many it has; NONE if that would be more than 60");
        EvenGranary x = new EvenGranary();
        for (int has = 20; has <= 60; has += 20) {
            due.is("feed", has, x.feed(BLANKS, BLANKS, BLANKS, BLANKS, BLANKS));
            due.is("count(5)", has, x.count(5));
        }
        due.is("feed to 80", NONE, x.feed(BLANKS, BLANKS, BLANKS, BLANKS, BLANKS));
        due.is("count(5)", 60, x.count(5));
        x.edict(60);
        due.is("feed when it is empty again", 20, x.feed(BLANKS, BLANKS, BLANKS, BLANKS, BLANKS));
    }

    private static void feedBytes(Due due) {
        due.of("Twenty bytes come behind the tape, the highest of each int first");
        // A byte that can't be there stands at each of the twenty places in turn, and the fault tells where.
        for (int place = 0; place < 20; place++) {
            String text = "b1;b1;b1;b1;b1;b1;b1".substring(0, place) + "x";
            EvenGranary x = new EvenGranary();
            Due.feed(x, text);
            int fault = place % 3 == 0 ? 100 : place % 3 == 1 ? 200 : 500;
            due.is("edict of " + text, fault + place, x.edict(place + 1));
        }
        EvenGranary x = new EvenGranary();
        x.feed(0x62313b62, 0x323b6233, 0x3b62343b, 0x62353b62, 0x363b6237);
        x.feed(0x38ffffff, -1, -1, -1, -1);
        due.is("the second twenty come behind the first", 0, x.edict(21));
        due.is("b78, over the border of both", 78, x.rule('b'));
        x.feed(0x62310000, 0, 0, 0, 0);
        due.is("bytes 0 are there, too", 502, x.edict(3));
        x.feed(Integer.MIN_VALUE, 0, 0, 0, 0);
        due.is("the highest bit is of a byte", 100, x.edict(1));
    }

    private static void edict(Due due) {
        due.of("NONE: it has not so many (the tape stays)");
        due.is("edict(1) of no tape", NONE, new EvenGranary().edict(1));
        due.is("edict(0) of no tape", 100, new EvenGranary().edict(0));
        due.bounds("edict", 0, 20, NONE, n -> {
            EvenGranary x = new EvenGranary();
            Due.feed(x, "b77");
            return x.edict((int) n);
        });
        EvenGranary x = new EvenGranary();
        Due.feed(x, "b77;n5");
        x.edict(21);
        x.edict(-1);
        due.is("count(5)", 20, x.count(5));
        due.is("rule b", 100, x.rule('b'));
        due.is("its bytes are there still", 0, x.edict(6));
        due.is("rule b", 77, x.rule('b'));
        Due.feed(x, "b1;b2;b3;b4;b5;b6;b7;n1;n2;n3;n4;n5;n6;n7;s11;s22;m3333;m444");
        due.is("edict(61)", NONE, x.edict(61));
        due.is("edict(60)", 0, x.edict(60));
    }

    private static void edictEmptiesTheTape(Due due) {
        due.of("The first n bytes of the tape (empty then) are THE EDICT from the next MONTH on: 0; a FAULT: 100 times its number and its place (it stays)");
        EvenGranary x = new EvenGranary();
        Due.feed(x, "b77;n5;s6");
        due.is("the first 6", 0, x.edict(6));
        due.is("count(5)", 0, x.count(5));
        due.is("rule n", 5, x.rule('n'));
        due.is("rule s", 400, x.rule('s'));
        Due.feed(x, "b78;n6;s7");
        due.is("the first 7, with a fault at the end", 107, x.edict(7));
        due.is("count(5), with a fault", 0, x.count(5));
        due.is("rule b stays", 77, x.rule('b'));
        due.is("rule n stays", 5, x.rule('n'));
        Due.feed(x, "b79");
        due.is("the first 0", 100, x.edict(0));
        due.is("count(5)", 0, x.count(5));
        due.is("rule b stays", 77, x.rule('b'));
    }

    private static void rule(Due due) {
        due.of("The number of a letter (a byte) of THE EDICT in force next MONTH; NONE: no such letter.");
        EvenGranary x = Realms.with("b1;n2;s3;m4;l105;a6;p7;o8");
        int[] want = {1, 2, 3, 4, 105, 6, 7, 8};
        for (int letter = -1; letter <= 256; letter++) {
            int which = letter < 0 ? -1 : "bnsmlapo".indexOf(letter);
            due.is("rule(" + letter + ")", which < 0 ? NONE : want[which], x.rule(letter));
        }
        for (int far : new int[] {'b' + 256, 'b' - 256, 'b' + 65536, 'b' | Integer.MIN_VALUE, Integer.MIN_VALUE, Integer.MAX_VALUE}) {
            due.is("rule(" + far + ")", NONE, x.rule(far));
        }
    }

    private static void town(Due due) {
        due.of("A TOWN: its number; NONE: no such numbers, 8 are there.");
        due.bounds("eats", 1, 1000, NONE, n -> realm().town((int) n, 100000, 50000));
        due.bounds("market", 0, 100000, NONE, n -> realm().town(1000, (int) n, 50000));
        due.bounds("room", 0, 50000, NONE, n -> realm().town(1000, 100000, (int) n));
        EvenGranary x = realm();
        for (int t = 3; t < 8; t++) {
            due.is("town", t, x.town(1, 0, 0));
        }
        due.is("8 are there", NONE, x.town(1, 0, 0));
        due.is("count(1)", 8, x.count(1));
    }

    private static void road(Due due) {
        due.of("A ROAD: its number; NONE: no such two TOWNS, WAY, CARTS, 12 are there.");
        due.bounds("a", 0, 2, NONE, n -> realm().road((int) n, 1, 1, 1));
        due.bounds("b", 0, 2, NONE, n -> realm().road(1, (int) n, 1, 1));
        due.bounds("way", 1, 6, NONE, n -> realm().road(0, 2, (int) n, 10000));
        due.bounds("carts", 1, 10000, NONE, n -> realm().road(0, 2, 6, (int) n));
        due.is("one and the same", NONE, realm().road(1, 1, 1, 1));
        EvenGranary x = realm();
        for (int r = 1; r < 12; r++) {
            due.is("road", r, x.road(0, 2, 1, 1));
        }
        due.is("12 are there", NONE, x.road(0, 2, 1, 1));
        due.is("count(2)", 12, x.count(2));
    }

    private static void coin(Due due) {
        due.of("THE COIN: true; false: no such number.");
        due.bounds("coin", 0, 1000000000, 0, n -> realm().coin(n) ? 1 : 0);
        EvenGranary x = realm();
        due.is("coin(Long.MIN_VALUE)", false, x.coin(Long.MIN_VALUE));
        due.is("coin(Long.MAX_VALUE)", false, x.coin(Long.MAX_VALUE));
        due.is("coin(1L << 32)", false, x.coin(1L << 32));
    }

    private static void harvest(Due due) {
        due.of("HARVEST of a TOWN for the next MONTH (in place of one told): true; false: no such ones.");
        due.bounds("town", 0, 2, 0, n -> realm().harvest((int) n, 1) ? 1 : 0);
        due.bounds("measures", 0, 100000, 0, n -> realm().harvest(1, (int) n) ? 1 : 0);
        EvenGranary x = realm();
        x.harvest(1, 70);
        x.harvest(1, 8);
        x.harvest(1, 100001);
        x.harvest(1, -1);
        x.step(1);
        due.is("market of 1", 3, x.look(1, 1));
        due.is("market of 2", 1000 - 2 + 1, x.look(2, 1));
    }

    private static void step(Due due) {
        due.of("n MONTHS (1 to 24) go by: which it is then; NONE: no such n");
        due.bounds("step", 1, 24, NONE, n -> realm().step((int) n));
        EvenGranary x = realm();
        due.is("step(1)", 3, x.step(1));
        due.is("step(24)", 27, x.step(24));
        due.is("count(0)", 27, x.count(0));
        due.is("what 25 months have bought, and two before", 27 * 10, x.look(0, 10));
    }

    private static void stepToTheLastMonth(Due due) {
        due.of("it would be above 2000");
        EvenGranary x = new EvenGranary();
        Realms.months(x, 1977);
        due.is("to 2001", NONE, x.step(24));
        due.is("count(0)", 1977, x.count(0));
        due.is("to 2000", 2000, x.step(23));
        due.is("to 2001", NONE, x.step(1));
        due.is("to 2024", NONE, x.step(24));
        due.is("count(0)", 2000, x.count(0));
        x = new EvenGranary();
        Realms.months(x, 1976);
        due.is("to 2000 by 24", 2000, x.step(24));
    }

    private static void move(Due due) {
        due.of("false: no such ones, the ROAD does not begin there, not so many are TRUE, CARTS, 60 are on the way");
        due.bounds("measures, by carts", 1, 15, 0, n -> realm().move(0, 0, (int) n) ? 1 : 0);
        due.bounds("road", 0, 0, 0, n -> realm().move(0, (int) n, 1) ? 1 : 0);
        due.bounds("town", 0, 0, 0, n -> realm().move((int) n, 0, 1) ? 1 : 0);
        due.is("town 2, where it does not begin", false, realm().move(2, 0, 1));
        due.is("town 3, that is none", false, realm().move(3, 0, 1));
        due.bounds("measures, by what is true", 1, 20, 0, n -> {
            EvenGranary x = realm();
            x.road(0, 1, 1, 10000);
            return x.move(0, 1, (int) n) ? 1 : 0;
        });
    }

    private static void loan(Due due) {
        due.of("what it OWES then; NONE: no such ones, not so many are TRUE");
        due.bounds("measures", 1, 20, NONE, n -> realm().loan(0, (int) n));
        due.bounds("town", 0, 0, NONE, n -> realm().loan((int) n, 1));
        due.is("town 2, that has none", NONE, realm().loan(2, 1));
        due.is("town 3, that is none", NONE, realm().loan(3, 1));
        EvenGranary x = realm();
        due.is("loan(0, 1)", 2, x.loan(0, 1));
        due.is("loan(0, 19)", 2 + 21, x.loan(0, 19));
    }

    private static void steal(Due due) {
        due.of("A clerk of TOWN t STEALS n measures (1 or more): true; false: no such ones, not so many are TRUE.");
        due.bounds("measures", 1, 20, 0, n -> realm().steal(0, (int) n) ? 1 : 0);
        due.bounds("town", 0, 0, 0, n -> realm().steal((int) n, 1) ? 1 : 0);
        due.is("town 2, that has none", false, realm().steal(2, 1));
        due.is("town 3, that is none", false, realm().steal(3, 1));
    }

    private static void measure(Due due) {
        due.of("what is FOUND by it; NONE: there is none such");
        due.bounds("lot", 0, 1, NONE, n -> realm().measure(0, (int) n));
        due.bounds("town", 0, 0, NONE, n -> realm().measure((int) n, 0));
        due.is("town 2, that has none", NONE, realm().measure(2, 0));
        due.is("town 3, that is none", NONE, realm().measure(3, 0));
        EvenGranary x = Realms.lots(40, 1);
        due.is("the fortieth", 0, x.measure(0, 39));
        due.is("a forty-first", NONE, x.measure(0, 40));
    }

    private static void missing(Due due) {
        due.of("MISSING of TOWN t, what 0 the least, 1 the greatest; NONE for others.");
        due.bounds("what", 0, 1, NONE, n -> realm().missing(0, (int) n));
        due.bounds("town", 0, 2, NONE, n -> realm().missing((int) n, 1));
        EvenGranary x = realm();
        x.steal(0, 3);
        x.measure(0, 0);
        due.is("the least", 3, x.missing(0, 0));
        due.is("the greatest", 13, x.missing(0, 1));
        due.is("the least of another", 0, x.missing(1, 0));
    }

    private static void foretold(Due due) {
        due.of("FORETOLD for n MONTHS (1 to 24); NONE: no such n.");
        due.bounds("foretold", 1, 24, NONE, n -> realm().foretold((int) n));
        due.is("foretold(1)", 5, realm().foretold(1));
        due.is("foretold(24)", 120, realm().foretold(24));
    }

    private static void best(Due due) {
        due.of("THE BEST MOVE from TOWN t for n MONTHS: its ROAD; NONE: none, no such ones.");
        due.bounds("months", 1, 24, NONE, n -> realm().best(0, (int) n));
        due.bounds("town", 0, 0, NONE, n -> realm().best((int) n, 24));
        due.is("best(0, 1)", 0, realm().best(0, 1));
        due.is("best(2, 24), from which no road goes", NONE, realm().best(2, 24));
        due.is("best(3, 24), that is no town", NONE, realm().best(3, 24));
    }

    private static void look(Due due) {
        due.of("Of TOWN t, what 0 EATS, 1 MARKET, 2 ROOM, 3 THE PRICE, 4 LOTS, 5 what is TRUE in all, 6 the BOOK of all, "
                + "7 HUNGER ever, 8 spoilt ever, 9 OWES, 10 bought ever, 11 sold ever, 12 stolen ever. NONE for others.");
        due.bounds("what", 0, 12, NONE, n -> realm().look(0, (int) n));
        due.bounds("town", 0, 2, NONE, n -> realm().look((int) n, 0));
        EvenGranary x = Realms.held("b0;s600;m4;a2;p10;o0", 10, 16, 60, 50);
        x.step(1);
        x.steal(0, 7);
        x.step(1);
        x.loan(0, 3);
        // Month 2: 16 - 10 are in the market. Month 3: 4 of 43 are sold at 625, all 10 are eaten, 4 of 39 spoil.
        long[] want = {10, 3, 60, 769, 1, 32, 39, 0, 4, 4, 50, 4, 7};
        for (int what = 0; what < want.length; what++) {
            due.is("look(0, " + what + ")", want[what], x.look(0, what));
        }
        // Month 4: 4 of 32 are sold at 769, 7 are eaten and 3 are lacking, 3 of 28 spoil; 5 are stolen behind it.
        x.step(1);
        x.steal(0, 5);
        want = new long[] {10, 0, 60, 1000, 1, 20, 32, 3, 7, 4, 50, 8, 12};
        for (int what = 0; what < want.length; what++) {
            due.is("look(0, " + what + "), ever", want[what], x.look(0, what));
        }
        Due.edict(x, "b9999;n6;p0;o0");
        x.coin(9000);
        x.harvest(0, 16);
        x.step(1);
        due.is("bought ever", 56, x.look(0, 10));
        due.is("hunger ever", 3, x.look(0, 7));
        due.is("hunger ever of all", 3, x.count(6));
    }

    private static void lot(Due due) {
        due.of("Of the i-th LOT of TOWN t, what 0 its MONTH, 1 BOOK, 2 whether it was MEASURED (1, 0). NONE for others.");
        due.bounds("what", 0, 2, NONE, n -> realm().lot(0, 0, (int) n));
        due.bounds("lot", 0, 1, NONE, n -> realm().lot(0, (int) n, 0));
        due.bounds("town", 0, 0, NONE, n -> realm().lot((int) n, 0, 0));
        due.is("town 2, that has none", NONE, realm().lot(2, 0, 0));
        due.is("town 3, that is none", NONE, realm().lot(3, 0, 0));
        EvenGranary x = realm();
        x.steal(0, 3);
        x.measure(0, 0);
        due.lot(x, 0, 0, 1, 7, 1);
        due.lot(x, 0, 1, 2, 10, 0);
    }

    private static void count(Due due) {
        due.of("0 the MONTH, 1 TOWNS, 2 ROADS, 3 THE COIN, 4 measures on the way, 5 bytes of the tape, 6 HUNGER ever of all TOWNS; "
                + "10 + r what ROAD r's CARTS took since the last MONTH. NONE for others.");
        due.bounds("what", 0, 6, NONE, n -> realm().count((int) n));
        due.bounds("what, of roads", 10, 10, NONE, n -> realm().count((int) n));
        for (int what : new int[] {8, Integer.MIN_VALUE + 9, Integer.MIN_VALUE + 10, Integer.MIN_VALUE + 11}) {
            due.is("count(" + what + ")", NONE, realm().count(what));
        }
        EvenGranary x = realm();
        x.road(2, 1, 2, 9);
        x.step(3);
        x.coin(77);
        x.feed(0, 0, 0, 0, 0);
        x.move(0, 0, 11);
        x.move(0, 0, 2);
        long[] want = {5, 3, 2, 77, 13, 20, 15, NONE, NONE, NONE, 13, 0, NONE};
        for (int what = 0; what < want.length; what++) {
            due.is("count(" + what + ")", want[what], x.count(what));
        }
        x.step(1);
        due.is("count(10) a month later", 0, x.count(10));
        due.is("count(4) a month later", 0, x.count(4));
    }
}
