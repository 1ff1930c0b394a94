/** 'Terms', sentence by sentence: the bounds of MONTHS, TOWNS, THE PRICE, THE COIN and ROADS. */
public final class TermEdgesTest {
    private static final int NONE = EvenGranary.NONE;

    public static void main(String[] args) {
        Due due = new Due("TermEdgesTest");
        monthsBeginAtOne(due);
        eightTowns(due);
        eats(due);
        marketAtFirst(due);
        room(due);
        storeIsEmptyAtFirst(due);
        priceIsRoundedDown(due);
        priceOfAMoment(due);
        coinTold(due);
        coinMayBeMoreThanCanBeTold(due);
        coinMayBeMoreThanAnInt(due);
        twelveRoads(due);
        roadOfTwoTowns(due);
        roadGoesBothWays(due);
        way(due);
        carts(due);
        cartsOfAMonth(due);
        due.end();
    }

    private static EvenGranary twoTowns() {
        EvenGranary x = new EvenGranary();
        x.town(1, 0, 0);
        x.town(1, 0, 0);
        return x;
    }

    private static void monthsBeginAtOne(Due due) {
        due.of("MONTHS are numbered from 1; it is MONTH 0 at first.");
        EvenGranary x = Realms.lots(0, 10);
        due.is("count(0)", 0, x.count(0));
        due.is("step(1)", 1, x.step(1));
        due.is("month of the first lot", 1, x.lot(0, 0, 0));
    }

    private static void eightTowns(Due due) {
        due.of("TOWNS 0 to 7");
        EvenGranary x = new EvenGranary();
        for (int t = 0; t <= 7; t++) {
            due.is("look(" + t + ", 0) before", NONE, x.look(t, 0));
            due.is("town", t, x.town(t + 1, 0, 0));
            due.is("look(" + t + ", 0)", t + 1, x.look(t, 0));
        }
        due.is("a ninth", NONE, x.town(1, 0, 0));
        due.is("look(8, 0)", NONE, x.look(8, 0));
        due.is("look(-1, 0)", NONE, x.look(-1, 0));
        due.is("towns", 8, x.count(1));
    }

    private static void eats(Due due) {
        due.of("EATS (1 to 1000 measures a MONTH)");
        due.bounds("town, eats", 1, 1000, NONE, n -> new EvenGranary().town((int) n, 0, 0));
        EvenGranary x = new EvenGranary();
        x.town(1, 1001, 0);
        x.town(1000, 1001, 0);
        x.step(1);
        due.is("market where 1 is eaten", 1000, x.look(0, 1));
        due.is("market where 1000 are eaten", 1, x.look(1, 1));
    }

    private static void marketAtFirst(Due due) {
        due.of("a MARKET (0 to 100000 measures at first)");
        due.bounds("town, market", 0, 100000, NONE, n -> new EvenGranary().town(1, (int) n, 0));
        EvenGranary x = new EvenGranary();
        x.town(1, 100000, 0);
        x.harvest(0, 100000);
        x.step(1);
        due.is("more than that later", 199999, x.look(0, 1));
    }

    private static void room(Due due) {
        due.of("a STORE of a ROOM (0 to 50000)");
        due.bounds("town, room", 0, 50000, NONE, n -> new EvenGranary().town(1, 0, (int) n));
        EvenGranary x = Realms.with("n9999;p0;o0");
        x.town(1, 100000, 50000);
        x.town(1, 100000, 0);
        x.town(1, 100000, 1);
        x.step(5);
        due.is("five months of buying", 5 * 9999, x.look(0, 5));
        x.step(2);
        due.is("the greatest room, full", 50000, x.look(0, 5));
        due.is("no room", 0, x.look(1, 5));
        due.is("room for one", 1, x.look(2, 5));
    }

    private static void storeIsEmptyAtFirst(Due due) {
        due.of("empty at first");
        EvenGranary x = new EvenGranary();
        x.town(1000, 100000, 50000);
        due.is("lots", 0, x.look(0, 4));
        due.is("true", 0, x.look(0, 5));
        due.is("book", 0, x.look(0, 6));
        due.is("lot(0, 0, 0)", NONE, x.lot(0, 0, 0));
    }

    private static void priceIsRoundedDown(Due due) {
        due.of("THE PRICE of a TOWN is 1000 EATS / (MARKET + EATS), rounded down");
        int[][] eatsMarketPrice = {{1, 0, 1000}, {1000, 0, 1000}, {1, 1, 500}, {1, 2, 333}, {2, 1, 666}, {1000, 1, 999},
                {1, 498, 2}, {1, 499, 2}, {1, 500, 1}, {1, 999, 1}, {1, 1000, 0}, {1, 100000, 0}, {1000, 99999, 9}, {1000, 100000, 9},
                {10, 90, 100}, {10, 89, 101}, {10, 91, 99}};
        for (int[] row : eatsMarketPrice) {
            EvenGranary x = new EvenGranary();
            x.town(row[0], row[1], 0);
            due.is("price by " + row[0] + " and " + row[1], row[2], x.look(0, 3));
        }
    }

    private static void priceOfAMoment(Due due) {
        due.of("as it is at a moment");
        EvenGranary x = Realms.with("b1000;n50;s9999;p0;o0");
        x.town(10, 60, 50);
        x.coin(1000000);
        x.step(1);
        due.is("price of an empty market", 1000, x.look(0, 3));
        x.loan(0, 10);
        due.is("price at once behind a loan", 500, x.look(0, 3));
        x.loan(0, 20);
        due.is("price at once behind another", 250, x.look(0, 3));
    }

    private static void coinTold(Due due) {
        due.of("THE COIN of the realm is told (0 to 1000000000; 0 at first)");
        due.is("at first", 0, new EvenGranary().count(3));
        due.bounds("coin", 0, 1000000000, 0, n -> new EvenGranary().coin(n) ? 1 : 0);
        for (long n : new long[] {Long.MIN_VALUE, Long.MAX_VALUE, 1L << 32, -1L << 32, (1L << 32) + 5}) {
            due.is("coin(" + n + ")", false, new EvenGranary().coin(n));
        }
        EvenGranary x = new EvenGranary();
        x.coin(1000000000);
        due.is("the most is told", 1000000000, x.count(3));
        x.coin(7);
        due.is("told anew, not added", 7, x.count(3));
        x.coin(0);
        due.is("the least is told", 0, x.count(3));
    }

    private static void coinMayBeMoreThanCanBeTold(Due due) {
        due.of("it sells as many as m and what is TRUE let it, at that PRICE");
        EvenGranary x = Realms.with("b1000;n50;s9999;p0;o0");
        x.town(10, 60, 50);
        x.coin(1000000);
        x.step(1);
        x.coin(1000000000);
        Due.edict(x, "b0;s1000;m5;p0;o0");
        x.step(1);
        due.is("coin above what can be told", 1000005000L, x.count(3));
    }

    /** Eight towns fill their stores three times, wait till nothing is in their markets, and sell all at 1000. */
    private static void coinMayBeMoreThanAnInt(Due due) {
        due.of("3 THE COIN");
        EvenGranary x = new EvenGranary();
        x.coin(1000000000);
        for (int t = 0; t < 8; t++) {
            x.town(1000, 0, 50000);
        }
        for (int year = 1; year <= 3; year++) {
            Due.edict(x, "b9999;n9999;s9999;p0;o0");
            for (int t = 0; t < 8; t++) {
                x.harvest(t, 100000);
            }
            x.step(6);
            Due.edict(x, "b0;n0;s1000;m1000;p0;o0");
            long before = x.count(3);
            Realms.months(x, 94);
            due.is("sold by town 7", 50000L * year, x.look(7, 11));
            due.is("coin", before + 8 * 50000 * 1000L, x.count(3));
        }
        due.is("coin above all ints", true, x.count(3) > Integer.MAX_VALUE);
    }

    private static void twelveRoads(Due due) {
        due.of("ROADS 0 to 11");
        EvenGranary x = Realms.lots(1, 20);
        x.town(1, 0, 0);
        for (int r = 0; r <= 11; r++) {
            due.is("count(10 + " + r + ") before", NONE, x.count(10 + r));
            due.is("road", r, x.road(0, 1, 1, 1));
            due.is("move by it", true, x.move(0, r, 1));
            due.is("count(10 + " + r + ")", 1, x.count(10 + r));
        }
        due.is("a thirteenth", NONE, x.road(0, 1, 1, 1));
        due.is("count(22)", NONE, x.count(22));
        due.is("move by road 12", false, x.move(0, 12, 1));
        due.is("move by road -1", false, x.move(0, -1, 1));
        due.is("roads", 12, x.count(2));
    }

    private static void roadOfTwoTowns(Due due) {
        due.of("each between two TOWNS");
        due.bounds("road, a", 0, 1, NONE, n -> twoTowns().road((int) n, n == 1 ? 0 : 1, 1, 1));
        due.bounds("road, b", 0, 1, NONE, n -> twoTowns().road(n == 1 ? 0 : 1, (int) n, 1, 1));
        due.is("from 0 to 0", NONE, twoTowns().road(0, 0, 1, 1));
        due.is("from 1 to 1", NONE, twoTowns().road(1, 1, 1, 1));
        EvenGranary x = twoTowns();
        due.is("a first between two", 0, x.road(0, 1, 1, 1));
        due.is("a second between the same two", 1, x.road(0, 1, 1, 1));
        due.is("a third, told from the other end", 2, x.road(1, 0, 1, 1));
    }

    private static void roadGoesBothWays(Due due) {
        due.of("both ways");
        EvenGranary x = Realms.lots(1, 20);
        x.town(1, 0, 100);
        x.road(1, 0, 1, 100);
        Due.edict(x, "n0;s9999;p0;o0");
        due.is("from its second town", true, x.move(0, 0, 9));
        x.step(1);
        due.is("it came to the first", 9, x.look(1, 5));
        due.is("from its first town", true, x.move(1, 0, 4));
        x.step(1);
        due.is("it came to the second", 15, x.look(0, 5));
        due.is("left in the first", 5, x.look(1, 5));
    }

    private static void way(Due due) {
        due.of("a WAY of 1 to 6 MONTHS");
        due.bounds("road, way", 1, 6, NONE, n -> twoTowns().road(0, 1, (int) n, 1));
        EvenGranary x = Realms.lotsAndRoad(1, 20, 6);
        x.road(0, 1, 1, 100);
        x.move(0, 0, 7);
        x.move(0, 1, 4);
        x.step(1);
        due.is("way 1 ends in the next month", 7, x.count(4));
        x.step(4);
        due.is("way 6 does not end in five", 7, x.count(4));
        x.step(1);
        due.is("way 6 ends in six", 0, x.count(4));
    }

    private static void carts(Due due) {
        due.of("CARTS (1 to 10000 measures in a MONTH");
        due.bounds("road, carts", 1, 10000, NONE, n -> twoTowns().road(0, 1, 1, (int) n));
        EvenGranary x = Realms.lotsAndRoad(2, 9000, 1);
        x.road(0, 1, 1, 1);
        due.is("10001 by the most carts", false, x.move(0, 0, 10001));
        due.is("10000 by the most carts", true, x.move(0, 0, 10000));
        due.is("one more", false, x.move(0, 0, 1));
        due.is("2 by the fewest carts", false, x.move(0, 1, 2));
        due.is("1 by the fewest carts", true, x.move(0, 1, 1));
        due.is("one more", false, x.move(0, 1, 1));
    }

    private static void cartsOfAMonth(Due due) {
        due.of("both ways together");
        EvenGranary x = Realms.lotsAndRoad(1, 50, 1);
        x.road(0, 1, 1, 10);
        x.move(0, 0, 20);
        x.step(1);
        due.is("6 there", true, x.move(0, 1, 6));
        due.is("5 back", false, x.move(1, 1, 5));
        due.is("4 back", true, x.move(1, 1, 4));
        due.is("1 there", false, x.move(0, 1, 1));
        due.is("count(11)", 10, x.count(11));
        x.step(1);
        due.is("count(11) a month later", 0, x.count(11));
        due.is("10 back", true, x.move(1, 1, 10));
    }
}
