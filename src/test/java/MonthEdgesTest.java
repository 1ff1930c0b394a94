/** 'A MONTH goes by', sentence by sentence: its steps (1) to (6), at and just beyond what bounds each of them. */
public final class MonthEdgesTest {
    /** Neither buys (but at a price of 0) nor sells, spoils or turns over. */
    private static final String STILL = "b0;s9999;p0;o0";

    public static void main(String[] args) {
        Due due = new Due("MonthEdgesTest");
        cartsWhoseWayEnds(due);
        cartsComeWhereTheyWent(due);
        cartsFillTheStoreThenTheMarket(due);
        roomIsCountedByTrue(due);
        cartsOfOneMonthShareTheRoom(due);
        harvestComesOnce(due);
        paidBackInMonthNine(due);
        paidBackAsTheMarketHas(due);
        paidBackAsTheRoomHas(due);
        paidBackBehindTheHarvest(due);
        buysAtThePrice(due);
        buysAsManyAsLet(due);
        priceZeroCostsNothing(due);
        eachAtThatPrice(due);
        elseSells(due);
        sellsAsManyAsLet(due);
        townByTown(due);
        hunger(due);
        spoilsByAge(due);
        spoilsRoundedUp(due);
        spoiltLotIsGone(due);
        turnsOverInMonthTwelve(due);
        turnsOverRoundedUp(due);
        turnsOverAsTheMarketHas(due);
        turnsOverAtNoPrice(due);
        cartsBeforePayingBack(due);
        cartsAndHarvestBeforeThePrice(due);
        tradeBeforeEating(due);
        spoilingBeforeTurningOver(due);
        due.end();
    }

    /** Month 1: town 0 holds 100; town 1 eats 1, has no market and a room; roads of the ways 1, 3 and 1 between them. */
    private static EvenGranary withTarget(int room) {
        EvenGranary x = Realms.held(STILL, 1, 0, 100, 100);
        x.town(1, 0, room);
        x.road(0, 1, 1, 10000);
        x.road(1, 0, 3, 10000);
        x.road(0, 1, 1, 10000);
        return x;
    }

    private static void cartsWhoseWayEnds(Due due) {
        due.of("(1) Carts whose WAY ends come");
        EvenGranary x = withTarget(1000);
        x.move(0, 0, 5);
        x.move(0, 1, 7);
        x.move(0, 0, 11);
        x.step(1);
        due.is("those of way 1", 16, x.look(1, 5));
        due.is("on the way", 7, x.count(4));
        x.move(0, 1, 13);
        x.step(1);
        due.is("none in the second month", 16, x.look(1, 5));
        due.is("on the way", 20, x.count(4));
        x.step(1);
        due.is("the first of way 3", 23, x.look(1, 5));
        due.is("on the way", 13, x.count(4));
        x.step(1);
        due.is("the second of way 3", 36, x.look(1, 5));
        due.is("on the way", 0, x.count(4));
        due.lot(x, 1, 0, 2, 16);
        due.lot(x, 1, 1, 4, 7);
        due.lot(x, 1, 2, 5, 13);
    }

    private static void cartsComeWhereTheyWent(Due due) {
        due.of("(1) Carts whose WAY ends come");
        EvenGranary x = withTarget(1000);
        x.town(1, 0, 1000);
        x.road(0, 2, 2, 10000);
        x.move(0, 0, 20);
        x.move(0, 3, 7);
        x.move(0, 1, 5);
        x.step(1);
        x.move(1, 0, 3);
        x.step(1);
        due.is("true in 0, where 3 came back", 100 - 32 + 3, x.look(0, 5));
        due.is("true in 1", 20 - 3, x.look(1, 5));
        due.is("true in 2", 7, x.look(2, 5));
        x.step(1);
        due.is("true in 1", 17 + 5, x.look(1, 5));
        due.is("true in 2", 7, x.look(2, 5));
    }

    private static void cartsFillTheStoreThenTheMarket(Due due) {
        due.of("into the STORE as far as there is ROOM (by TRUE), the rest to the MARKET");
        int[][] roomMovedTrueMarketHunger = {{20, 19, 19, 0, 1}, {20, 20, 20, 0, 1}, {20, 21, 20, 0, 0}, {20, 22, 20, 1, 0},
                {0, 1, 0, 0, 0}, {0, 100, 0, 99, 0}, {1, 1, 1, 0, 1}, {100, 100, 100, 0, 1}, {99, 100, 99, 0, 0}};
        for (int[] row : roomMovedTrueMarketHunger) {
            EvenGranary x = withTarget(row[0]);
            String what = row[1] + " to a room of " + row[0];
            due.is(what, true, x.move(0, 0, row[1]));
            x.step(1);
            due.is("true, " + what, row[2], x.look(1, 5));
            due.is("market, " + what, row[3], x.look(1, 1));
            due.is("hunger, " + what, row[4], x.look(1, 7));
        }
    }

    private static void roomIsCountedByTrue(Due due) {
        due.of("ROOM (by TRUE)");
        EvenGranary x = withTarget(20);
        x.move(0, 0, 20);
        x.step(1);
        x.steal(1, 8);
        x.move(0, 0, 10);
        x.step(1);
        due.is("true", 20, x.look(1, 5));
        due.is("book", 28, x.look(1, 6));
        due.is("market: 2 had no room, 1 is eaten", 1, x.look(1, 1));
    }

    private static void cartsOfOneMonthShareTheRoom(Due due) {
        due.of("by the order in which they left");
        EvenGranary x = withTarget(20);
        x.move(0, 1, 15);
        x.step(2);
        x.move(0, 0, 4);
        x.move(0, 2, 4);
        x.step(1);
        due.is("true", 20, x.look(1, 5));
        due.is("lots", 1, x.look(1, 4));
        due.lot(x, 1, 0, 4, 20);
        due.is("market: 3 had no room, 1 is eaten", 2, x.look(1, 1));
    }

    private static void harvestComesOnce(Due due) {
        due.of("HARVEST told for it (0 to 100000; once) comes to its MARKET");
        due.bounds("harvest", 0, 100000, 0, n -> Realms.lots(0, 1).harvest(0, (int) n) ? 1 : 0);
        EvenGranary x = Realms.held(STILL, 10, 0, 0, 0);
        x.harvest(0, 100000);
        x.step(1);
        due.is("the most", 99990, x.look(0, 1));
        x.step(1);
        due.is("once", 99980, x.look(0, 1));
        x = Realms.held(STILL, 10, 0, 0, 0);
        x.harvest(0, 21);
        x.step(2);
        due.is("once where two months go by", 1, x.look(0, 1));
        x.harvest(0, 50);
        x.harvest(0, 0);
        x.step(1);
        due.is("nothing in place of one told", 0, x.look(0, 1));
    }

    /** Month 8: town 0 eats 10, has no market and an empty store, and owes 11. */
    private static EvenGranary owing(int room) {
        EvenGranary x = Realms.held(STILL, 10, 0, room, 10);
        x.loan(0, 10);
        x.step(7);
        return x;
    }

    private static void paidBackInMonthNine(Due due) {
        due.of("if the MONTH modulo 12 is 9: what it OWES is paid back into its STORE");
        EvenGranary x = Realms.held(STILL, 10, 5000, 100, 20);
        x.loan(0, 10);
        x.step(7);
        due.is("owes in month 8", 11, x.look(0, 9));
        x.step(1);
        due.is("owes in month 9", 0, x.look(0, 9));
        due.lot(x, 0, 1, 9, 11, 0);
        x.loan(0, 10);
        for (int month = 10; month <= 20; month++) {
            x.step(1);
            due.is("owes in month " + month, 11, x.look(0, 9));
        }
        x.step(1);
        due.is("owes in month 21", 0, x.look(0, 9));
        due.is("true", 22, x.look(0, 5));
        due.is("market", 5000 + 20 - 22 - 20 * 10, x.look(0, 1));
    }

    private static void paidBackAsTheMarketHas(Due due) {
        due.of("as much as the MARKET and ROOM have");
        int[][] harvestOwesTrueMarket = {{0, 11, 0, 0}, {1, 10, 1, 0}, {10, 1, 10, 0}, {11, 0, 11, 0}, {12, 0, 11, 0},
                {21, 0, 11, 0}, {22, 0, 11, 1}};
        for (int[] row : harvestOwesTrueMarket) {
            EvenGranary x = owing(50);
            x.harvest(0, row[0]);
            x.step(1);
            due.is("owes, by a market of " + row[0], row[1], x.look(0, 9));
            due.is("true, by a market of " + row[0], row[2], x.look(0, 5));
            due.is("market of " + row[0], row[3], x.look(0, 1));
        }
    }

    private static void paidBackAsTheRoomHas(Due due) {
        due.of("as much as the MARKET and ROOM have");
        int[][] roomOwes = {{10, 1}, {11, 0}, {12, 0}};
        for (int[] row : roomOwes) {
            EvenGranary x = owing(row[0]);
            x.harvest(0, 100);
            x.step(1);
            due.is("owes, by a room of " + row[0], row[1], x.look(0, 9));
            due.is("true, by a room of " + row[0], 11 - row[1], x.look(0, 5));
            due.is("market, by a room of " + row[0], 100 - 11 + row[1] - 10, x.look(0, 1));
        }
        EvenGranary x = Realms.held(STILL, 10, 5000, 10, 10);
        x.loan(0, 3);
        x.loan(0, 2);
        due.is("owes", 4 + 3, x.look(0, 9));
        x.step(8);
        due.is("owes, 5 had room", 2, x.look(0, 9));
        x.step(12);
        due.is("owes, a full store", 2, x.look(0, 9));
        x.steal(0, 1);
        x.step(12);
        due.is("owes, room is by true", 1, x.look(0, 9));
    }

    private static void paidBackBehindTheHarvest(Due due) {
        due.of("Behind that");
        EvenGranary x = owing(50);
        due.is("market before", 0, x.look(0, 1));
        x.harvest(0, 11);
        x.step(1);
        due.is("owes", 0, x.look(0, 9));
        due.is("hunger of the months 3 to 9: it is paid back before it is eaten", 7 * 10, x.look(0, 7));
    }

    /** What a month of trade does in a realm of eats, market, room, held and coin: what is bought, sold, and the coin then. */
    private static void trade(Due due, String edict, int[] realm, long bought, long sold, long coin) {
        EvenGranary x = Realms.held(edict + ";p0;o0", realm[0], realm[1], realm[2], realm[3]);
        x.coin(realm[4]);
        String at = " by " + edict + " at " + x.look(0, 3) + ", market " + realm[1] + ", room " + realm[2] + ", held " + realm[3] + ", coin " + realm[4];
        long before = x.look(0, 10);
        x.step(1);
        due.is("bought" + at, bought, x.look(0, 10) - before);
        due.is("sold" + at, sold, x.look(0, 11));
        due.is("coin" + at, coin, x.count(3));
        due.is("true" + at, realm[3] + bought - sold, x.look(0, 5));
        due.is("market" + at, Math.max(0, realm[1] - bought + sold - realm[0]), x.look(0, 1));
    }

    private static int[] realm(int eats, int market, int room, int held, int coin) {
        return new int[] {eats, market, room, held, coin};
    }

    private static void buysAtThePrice(Due due) {
        due.of("if THE PRICE is b or less, its STORE buys");
        trade(due, "b100;n5", realm(10, 89, 50, 0, 9000), 0, 0, 9000);
        trade(due, "b100;n5", realm(10, 90, 50, 0, 9000), 5, 0, 8500);
        trade(due, "b100;n5", realm(10, 91, 50, 0, 9000), 5, 0, 9000 - 5 * 99);
        trade(due, "b0;n5", realm(1, 999, 50, 0, 9000), 0, 0, 9000);
        trade(due, "b0;n5", realm(1, 1000, 50, 0, 9000), 5, 0, 9000);
    }

    private static void buysAsManyAsLet(Due due) {
        due.of("as many as n, ROOM, the MARKET and THE COIN");
        trade(due, "n89", realm(10, 90, 500, 0, 90000), 89, 0, 90000 - 8900);
        trade(due, "n90", realm(10, 90, 500, 0, 90000), 90, 0, 90000 - 9000);
        trade(due, "n91", realm(10, 90, 500, 0, 90000), 90, 0, 90000 - 9000);
        trade(due, "n0", realm(10, 90, 500, 0, 90000), 0, 0, 90000);
        trade(due, "n5", realm(10, 90, 24, 20, 90000), 4, 0, 90000 - 400);
        trade(due, "n5", realm(10, 90, 25, 20, 90000), 5, 0, 90000 - 500);
        trade(due, "n5", realm(10, 90, 26, 20, 90000), 5, 0, 90000 - 500);
        trade(due, "n5", realm(10, 90, 20, 20, 90000), 0, 0, 90000);
        trade(due, "n5", realm(10, 90, 50, 0, 0), 0, 0, 0);
        trade(due, "n5", realm(10, 90, 50, 0, 99), 0, 0, 99);
        trade(due, "n5", realm(10, 90, 50, 0, 100), 1, 0, 0);
        trade(due, "n5", realm(10, 90, 50, 0, 499), 4, 0, 99);
        trade(due, "n5", realm(10, 90, 50, 0, 500), 5, 0, 0);
        trade(due, "n5", realm(10, 90, 50, 0, 501), 5, 0, 1);
        trade(due, "b9999;n5", realm(10, 0, 50, 0, 90000), 0, 0, 90000);
        trade(due, "b9999;n5", realm(10, 1, 50, 0, 90000), 1, 0, 90000 - 909);
    }

    private static void priceZeroCostsNothing(Due due) {
        due.of("0 costs nothing");
        trade(due, "n5", realm(1, 1000, 50, 0, 0), 5, 0, 0);
        trade(due, "n5", realm(1, 1000, 50, 0, 7), 5, 0, 7);
        trade(due, "n5", realm(1, 999, 50, 0, 0), 0, 0, 0);
        trade(due, "n5", realm(1, 999, 50, 0, 1), 1, 0, 0);
        trade(due, "n5", realm(1, 999, 50, 0, 7), 5, 0, 2);
    }

    private static void eachAtThatPrice(Due due) {
        due.of("(at that PRICE, each alike");
        trade(due, "n90", realm(10, 90, 90, 0, 9000), 90, 0, 0);
        trade(due, "n90", realm(10, 90, 90, 0, 8999), 89, 0, 99);
        trade(due, "s1000;m9", realm(10, 0, 90, 20, 3), 0, 9, 9003);
    }

    private static void elseSells(Due due) {
        due.of("else if it is s or more, it sells");
        trade(due, "s400;m5", realm(10, 15, 50, 20, 3), 0, 5, 2003);
        trade(due, "s400;m5", realm(10, 16, 50, 20, 3), 0, 0, 3);
        trade(due, "s384;m5", realm(10, 16, 50, 20, 3), 0, 5, 3 + 5 * 384);
        trade(due, "s385;m5", realm(10, 16, 50, 20, 3), 0, 0, 3);
        trade(due, "b400;n2;s400;m5", realm(10, 15, 50, 20, 9000), 2, 0, 8200);
        trade(due, "b399;n2;s400;m5", realm(10, 15, 50, 20, 9000), 0, 5, 11000);
        trade(due, "b400;n0;s0;m5", realm(10, 15, 50, 20, 9000), 0, 0, 9000);
        trade(due, "b399;s401", realm(10, 15, 50, 20, 9000), 0, 0, 9000);
    }

    private static void sellsAsManyAsLet(Due due) {
        due.of("it sells as many as m and what is TRUE let it, at that PRICE");
        trade(due, "m5", realm(10, 15, 50, 4, 0), 0, 4, 1600);
        trade(due, "m5", realm(10, 15, 50, 5, 0), 0, 5, 2000);
        trade(due, "m5", realm(10, 15, 50, 6, 0), 0, 5, 2000);
        trade(due, "m5", realm(10, 15, 50, 0, 0), 0, 0, 0);
        trade(due, "m0", realm(10, 15, 50, 6, 0), 0, 0, 0);
        EvenGranary x = Realms.held("m5;p0;o0", 10, 15, 50, 6);
        x.steal(0, 4);
        x.step(1);
        due.is("sold: two are true, six are in the book", 2, x.look(0, 11));
        due.is("found", 4, x.missing(0, 0));
    }

    /** A month in which a town without coin buys 7 at 100 and a town sells 3 at 1000, the one that sells being given. */
    private static EvenGranary buyerAndSeller(int seller) {
        EvenGranary x = Realms.with("b9999;n20;p0;o0");
        x.coin(1000000);
        for (int t = 0; t < 2; t++) {
            x.town(10, t == seller ? 30 : 120, 100);
        }
        x.step(1);
        x.coin(0);
        Due.edict(x, "b100;n7;s1000;m3;p0;o0");
        x.step(1);
        return x;
    }

    private static void townByTown(Due due) {
        due.of("(3) TOWN by TOWN");
        EvenGranary x = buyerAndSeller(0);
        due.is("sold by 0", 3, x.look(0, 11));
        due.is("bought by 1 with what 0 earned", 20 + 7, x.look(1, 10));
        due.is("coin", 3000 - 700, x.count(3));
        x = buyerAndSeller(1);
        due.is("bought by 0 before 1 earned", 20, x.look(0, 10));
        due.is("sold by 1", 3, x.look(1, 11));
        due.is("coin", 3000, x.count(3));
    }

    private static void hunger(Due due) {
        due.of("(4) Each TOWN eats EATS; what its MARKET lacks is HUNGER.");
        int[][] marketLeftHunger = {{0, 0, 10}, {1, 0, 9}, {9, 0, 1}, {10, 0, 0}, {11, 1, 0}};
        for (int[] row : marketLeftHunger) {
            EvenGranary x = Realms.with(STILL);
            x.town(10, row[0], 0);
            x.step(1);
            due.is("market of " + row[0], row[1], x.look(0, 1));
            due.is("hunger by a market of " + row[0], row[2], x.look(0, 7));
            x.step(1);
            due.is("hunger ever", 20 - row[0], x.look(0, 7));
        }
    }

    private static void spoilsByAge(Due due) {
        due.of("(5) Of each LOT from a MONTH that is a MONTHS or more ago");
        EvenGranary x = Realms.lots(3, 10);
        Due.edict(x, "n0;a3;p10;o0");
        int[][] spoiltInMonth = {{4, 1}, {5, 3}, {6, 6}, {7, 9}};
        for (int[] row : spoiltInMonth) {
            x.step(1);
            due.is("spoilt till month " + row[0], row[1], x.look(0, 8));
        }
        due.lot(x, 0, 0, 1, 6);
        due.lot(x, 0, 1, 2, 7);
        due.lot(x, 0, 2, 3, 8);
    }

    private static void spoilsRoundedUp(Due due) {
        due.of("p hundredths of what is TRUE, rounded up, spoil (BOOK and TRUE less by it");
        int[][] heldHundredthsSpoilt = {{100, 1, 1}, {101, 1, 2}, {99, 1, 1}, {1, 1, 1}, {1, 100, 1}, {50, 2, 1}, {51, 2, 2},
                {20, 5, 1}, {21, 5, 2}, {3, 33, 1}, {3, 34, 2}, {7, 0, 0}, {9999, 99, 9900}, {9999, 100, 9999}, {9900, 1, 99}, {9901, 1, 100}};
        for (int[] row : heldHundredthsSpoilt) {
            EvenGranary x = Realms.held("b0;s9999;a1;o0;p" + row[1], 10, 0, 9999, row[0]);
            x.step(1);
            due.is("p" + row[1] + " of " + row[0], row[2], x.look(0, 8));
            due.is("true", row[0] - row[2], x.look(0, 5));
            due.is("book", row[0] - row[2], x.look(0, 6));
        }
        EvenGranary x = Realms.held("b0;s9999;a1;o0;p10", 10, 0, 100, 100);
        x.steal(0, 79);
        x.step(1);
        due.is("of 21 true, not of 100 in the book", 3, x.look(0, 8));
        due.is("true", 18, x.look(0, 5));
        due.is("book", 97, x.look(0, 6));
    }

    private static void spoiltLotIsGone(Due due) {
        due.of("one of which nothing is TRUE then is gone as above");
        EvenGranary x = Realms.lots(4, 10);
        x.steal(0, 29);
        Due.edict(x, "n0;a2;p1;o0");
        x.step(1);
        due.is("lots: two had nothing, one had one", 1, x.look(0, 4));
        due.is("found", 10 + 10 + 9, x.missing(0, 0));
        due.is("spoilt", 1, x.look(0, 8));
        due.lot(x, 0, 0, 4, 10, 0);

        x = Realms.lots(2, 10);
        x.steal(0, 20);
        Due.edict(x, "n0;a3;p0;o0");
        x.step(1);
        due.is("lots, those with nothing are too young", 2, x.look(0, 4));
        x.step(1);
        due.is("lots, one is old enough, though nothing spoils by p0", 1, x.look(0, 4));
        due.is("found", 10, x.missing(0, 0));
        x.step(1);
        due.is("lots, the other too", 0, x.look(0, 4));
        due.is("found", 20, x.missing(0, 0));
        due.is("spoilt", 0, x.look(0, 8));
    }

    private static void turnsOverInMonthTwelve(Due due) {
        due.of("(6) If o is not 0 and the MONTH modulo 12 is 0");
        EvenGranary x = Realms.held("b0;s9999;p0;o1", 1, 900, 10, 10);
        for (int month = 2; month <= 37; month++) {
            x.step(1);
            due.is("month of the lot in month " + month, month < 12 ? 1 : month / 12 * 12, x.lot(0, 0, 0));
        }
        x = Realms.held("b0;s9999;p0;o0", 1, 900, 10, 10);
        x.step(24);
        due.is("month of the lot by o0", 1, x.lot(0, 0, 0));
    }

    /** Month 12 of a realm with 10 eaten: so much in the market behind that, and so many held by the book. */
    private static EvenGranary yearEnd(int part, int market, int held, int stolen) {
        EvenGranary x = Realms.held("b0;s9999;p0;o" + part, 10, 0, 5000, held);
        if (stolen > 0) {
            x.steal(0, stolen);
        }
        x.step(10);
        x.harvest(0, 10 + market);
        x.step(1);
        return x;
    }

    private static void turned(Due due, EvenGranary x, int old, int anew) {
        due.is("lots", (old > 0 ? 1 : 0) + (anew > 0 ? 1 : 0), x.look(0, 4));
        if (old > 0) {
            due.lot(x, 0, 0, 1, old, 0);
        }
        if (anew > 0) {
            due.lot(x, 0, old > 0 ? 1 : 0, 12, anew, 0);
        }
    }

    private static void turnsOverRoundedUp(Due due) {
        due.of("of each STORE the oldest part (of what is TRUE by o, rounded up)");
        int[][] heldPartTurned = {{10, 1, 10}, {9, 3, 3}, {10, 3, 4}, {11, 3, 4}, {12, 3, 4}, {13, 3, 5}, {10, 9, 2}, {10, 10, 1},
                {10, 11, 1}, {11, 10, 2}, {1, 9999, 1}, {1, 1, 1}, {2000, 9999, 1}, {10, 0, 0}};
        for (int[] row : heldPartTurned) {
            turned(due, yearEnd(row[1], 3000, row[0], 0), row[0] - row[2], row[2]);
        }
        EvenGranary x = yearEnd(3, 3000, 20, 13);
        due.is("true", 7, x.look(0, 5));
        turned(due, x, 17, 3);
    }

    private static void turnsOverAsTheMarketHas(Due due) {
        due.of("but not more than the MARKET has");
        turned(due, yearEnd(2, 0, 20, 0), 20, 0);
        turned(due, yearEnd(2, 1, 20, 0), 19, 1);
        turned(due, yearEnd(2, 9, 20, 0), 11, 9);
        turned(due, yearEnd(2, 10, 20, 0), 10, 10);
        turned(due, yearEnd(2, 11, 20, 0), 10, 10);
        turned(due, yearEnd(1, 19, 20, 0), 1, 19);
        turned(due, yearEnd(1, 20, 20, 0), 0, 20);
    }

    private static void turnsOverAtNoPrice(Due due) {
        due.of("is taken and comes into it anew (a LOT of this MONTH)");
        EvenGranary x = yearEnd(1, 50, 20, 0);
        due.is("market", 50, x.look(0, 1));
        due.is("true", 20, x.look(0, 5));
        due.is("bought", 20, x.look(0, 10));
        due.is("sold", 0, x.look(0, 11));
        due.is("coin", 0, x.count(3));
        x.measure(0, 0);
        Due.edict(x, "b0;s9999;p0;o1");
        x.step(11);
        due.lot(x, 0, 0, 12, 20, 1);
        x.harvest(0, 60);
        x.step(1);
        due.lot(x, 0, 0, 24, 20, 0);
    }

    private static void cartsBeforePayingBack(Due due) {
        due.of("A MONTH goes by, by THE EDICT in force: (1)");
        EvenGranary x = owing(50);
        x.town(1, 9000, 100);
        x.road(0, 1, 1, 100);
        Due.edict(x, "n45;s9999;p0;o0");
        x.step(12);
        due.is("owes in month 20", 11, x.look(0, 9));
        x.move(1, 0, 45);
        x.harvest(0, 100);
        x.step(1);
        due.is("owes: carts left room for 5", 6, x.look(0, 9));
        due.lot(x, 0, 0, 21, 50);
    }

    private static void cartsAndHarvestBeforeThePrice(Due due) {
        due.of("(3) TOWN by TOWN: if THE PRICE is b or less");
        EvenGranary x = Realms.held("b100;n1;s400;p0;o0", 10, 40, 101, 100);
        x.coin(1000);
        x.harvest(0, 50);
        x.step(1);
        due.is("coin: one was bought at 100, for the harvest was there", 900, x.count(3));
        // The carts fill a room of 20; one of 21, or 12 of 32, come to a market of 4.
        int[][] movedSoldCoin = {{21, 20, 20 * 666}, {32, 0, 0}, {31, 20, 20 * 400}};
        for (int[] row : movedSoldCoin) {
            x = Realms.held("b100;n1;s400;p0;o0", 10, 40, 100, 100);
            x.town(10, 4, 20);
            x.road(0, 1, 1, 100);
            x.move(0, 0, row[0]);
            x.step(1);
            due.is("sold of " + row[0] + " that came", row[1], x.look(1, 11));
            due.is("coin by " + row[0] + " that came", row[2], x.count(3));
        }
    }

    private static void tradeBeforeEating(Due due) {
        due.of("(4) Each TOWN eats EATS");
        EvenGranary x = Realms.held("b0;s1000;m10;p0;o0", 10, 0, 100, 10);
        x.step(1);
        due.is("hunger: what was sold is eaten", 0, x.look(0, 7));
        x = Realms.held("b1000;n95;p0;o0", 10, 100, 100, 0);
        x.coin(1000000);
        x.step(1);
        due.is("hunger: what was bought is not eaten", 5, x.look(0, 7));
    }

    private static void spoilingBeforeTurningOver(Due due) {
        due.of("(5) Of each LOT");
        EvenGranary x = Realms.held("b0;s9999;a11;p10;o2", 1, 500, 100, 100);
        x.step(11);
        due.is("spoilt in month 12, before it is turned over", 10, x.look(0, 8));
        due.lot(x, 0, 0, 1, 45);
        due.lot(x, 0, 1, 12, 45);
    }
}
