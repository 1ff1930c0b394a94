/** Promise 9: step, with the six parts of a month; promise 18: lot, as the months make them. */
public final class MonthTest {
    private static final int NONE = EvenGranary.NONE;

    public static void main(String[] args) {
        Due due = new Due("MonthTest");
        wrongSteps(due);
        lastMonth(due);
        paysBackInTheNinthMonth(due);
        paysBackWhatTheMarketHas(due);
        paysBackWhatTheRoomHas(due);
        cartsTakeTheRoomFirst(due);
        buysAsManyAs(due);
        buysAtThePriceOrBelow(due);
        oneCoinForAllTowns(due);
        sells(due);
        sellingNothingLooksAtNoLot(due);
        buyingComesBeforeSelling(due);
        harvestTradeThenEating(due);
        spoils(due);
        spoilsWhatIsTrue(due);
        turnsOver(due);
        turnsOverWhatTheMarketHas(due);
        fortyLots(due);
        edictOfTheNextMonth(due);
        due.end();
    }

    private static void wrongSteps(Due due) {
        EvenGranary x = new EvenGranary();
        for (int n : new int[] {0, -1, 25, Integer.MIN_VALUE, Integer.MAX_VALUE}) {
            due.is("step(" + n + ")", NONE, x.step(n));
        }
        due.is("month stays", 0, x.count(0));
        due.is("step(1)", 1, x.step(1));
        due.is("step(24)", 25, x.step(24));
        due.is("month", 25, x.count(0));
    }

    private static void lastMonth(Due due) {
        EvenGranary x = new EvenGranary();
        x.town(3, 0, 0);
        for (int i = 1; i <= 83; i++) {
            due.is("step(24)", 24 * i, x.step(24));
        }
        due.is("step above 2000", NONE, x.step(9));
        due.is("step to 2000", 2000, x.step(8));
        due.is("step behind 2000", NONE, x.step(1));
        due.is("foretold behind 2000", 72, x.foretold(24));
        due.is("hunger", 6000, x.count(6));
    }

    private static void paysBackInTheNinthMonth(Due due) {
        EvenGranary x = new EvenGranary();
        x.town(1, 5000, 1000);
        x.step(1);
        due.is("loan", 55, x.loan(0, 50));
        x.step(7);
        due.is("it is not paid back in month 8", 55, x.look(0, 9));
        due.is("true", 750, x.look(0, 5));
        x.step(1);
        due.is("it is in month 9", 0, x.look(0, 9));
        due.is("true", 905, x.look(0, 5));
        due.is("what was bought", 900, x.look(0, 10));
        due.lot(x, 0, 8, 9, 155, 0);
        due.is("market", 5000 - 900 + 50 - 55 - 9, x.look(0, 1));
    }

    private static void paysBackWhatTheMarketHas(Due due) {
        EvenGranary x = Realms.with("b9999;n60;s9999;p0;o0");
        x.coin(1000000);
        x.town(100, 560, 100);
        x.step(1);
        due.is("price was 151", 1000000 - 60 * 151, x.count(3));
        due.is("loan", 66, x.loan(0, 60));
        due.is("market", 460, x.look(0, 1));
        Due.edict(x, "b0;s9999;p0;o0");
        x.step(7);
        due.is("hunger", 40 + 100 + 100, x.look(0, 7));
        x.harvest(0, 25);
        x.step(1);
        due.is("owes", 41, x.look(0, 9));
        due.is("true", 25, x.look(0, 5));
        due.is("paid back before it is eaten", 340, x.look(0, 7));
        x.step(11);
        x.harvest(0, 100);
        x.step(1);
        due.is("the rest in month 21", 0, x.look(0, 9));
        due.is("market", 0, x.look(0, 1));
        due.is("hunger", 340 + 1100 + 41, x.look(0, 7));
        due.lot(x, 0, 0, 9, 25, 0);
        due.lot(x, 0, 1, 21, 41, 0);
    }

    private static void paysBackWhatTheRoomHas(Due due) {
        EvenGranary x = new EvenGranary();
        x.town(1, 5000, 100);
        x.step(1);
        x.loan(0, 50);
        x.step(7);
        due.is("true", 100, x.look(0, 5));
        x.steal(0, 30);
        x.step(1);
        due.is("owes", 25, x.look(0, 9));
        due.is("true", 100, x.look(0, 5));
        due.is("book", 130, x.look(0, 6));
        due.is("nothing was bought over it", 150, x.look(0, 10));
    }

    private static void cartsTakeTheRoomFirst(Due due) {
        EvenGranary x = Realms.with("n60;p0;o0");
        x.town(1, 5000, 60);
        x.town(1, 5000, 60);
        x.road(1, 0, 1, 100);
        x.step(1);
        x.loan(0, 40);
        Due.edict(x, "n0;p0;o0");
        x.step(7);
        due.is("true", 20, x.look(0, 5));
        x.move(1, 0, 25);
        x.step(1);
        due.is("15 of 44 are paid back", 29, x.look(0, 9));
        due.is("true", 60, x.look(0, 5));
        due.lot(x, 0, 1, 9, 40, 0);
    }

    private static void buysAsManyAs(Due due) {
        EvenGranary x = Realms.with("n30");
        x.town(1, 5000, 1000);
        x.town(1, 5000, 20);
        x.step(1);
        due.is("as n lets it", 30, x.look(0, 10));
        due.is("market", 4969, x.look(0, 1));
        due.is("as room lets it", 20, x.look(1, 10));
        x.step(1);
        due.is("again", 60, x.look(0, 10));
        due.is("no room more", 20, x.look(1, 10));
        due.is("lots", 2, x.look(0, 4));
        due.is("lots", 1, x.look(1, 4));
        due.is("price 0 costs nothing", 0, x.count(3));

        x = new EvenGranary();
        x.town(10, 90, 1000);
        x.coin(9050);
        x.step(1);
        due.is("as the market lets it", 90, x.look(0, 10));
        due.is("hunger", 10, x.look(0, 7));
        due.is("coin", 50, x.count(3));

        x = new EvenGranary();
        x.town(10, 90, 1000);
        x.coin(1999);
        x.step(1);
        due.is("as the coin lets it", 19, x.look(0, 10));
        due.is("coin", 99, x.count(3));
        due.is("market", 61, x.look(0, 1));

        x = new EvenGranary();
        x.town(10, 90, 1000);
        x.coin(99);
        x.step(1);
        due.is("coin for none", 0, x.look(0, 10));
        due.is("no lot of nothing", 0, x.look(0, 4));
    }

    private static void buysAtThePriceOrBelow(Due due) {
        EvenGranary x = new EvenGranary();
        x.town(10, 89, 1000);
        x.coin(100000);
        due.is("price", 101, x.look(0, 3));
        x.step(1);
        due.is("too dear", 0, x.look(0, 10));
        x = Realms.with("b101");
        x.town(10, 89, 1000);
        x.coin(100000);
        x.step(1);
        due.is("not too dear", 89, x.look(0, 10));
        due.is("coin", 100000 - 89 * 101, x.count(3));
    }

    private static void oneCoinForAllTowns(Due due) {
        EvenGranary x = new EvenGranary();
        x.town(10, 90, 1000);
        x.town(10, 90, 1000);
        x.coin(6000);
        x.step(1);
        due.is("the first town buys", 60, x.look(0, 10));
        due.is("the second has no coin", 0, x.look(1, 10));
    }

    private static void sells(Due due) {
        EvenGranary x = Realms.with("b1000;n50;p0;o0");
        x.town(10, 60, 100);
        x.town(1, 9, 100);
        x.coin(7100);
        x.step(1);
        due.is("bought for 142", 0, x.count(3));
        due.is("market", 0, x.look(0, 1));
        Due.edict(x, "b100;s1000;m20;p0;o0");
        x.step(1);
        due.is("sold at 1000", 20, x.look(0, 11));
        due.is("sold and eaten", 10, x.look(0, 1));
        due.is("coin", 20000, x.count(3));
        due.is("too dear for town 1", 0, x.look(1, 10));
        x.step(1);
        due.is("500 is below s", 20, x.look(0, 11));
        Due.edict(x, "b142;s1000;m20;p0;o0");
        x.step(1);
        due.is("sold again", 40, x.look(0, 11));
        due.is("true", 10, x.look(0, 5));
        due.is("town 1 buys at 142 with it", 6, x.look(1, 10));
        due.is("coin", 40000 - 6 * 142, x.count(3));
        x.step(2);
        due.is("not more than is true", 50, x.look(0, 11));
        due.is("no lots", 0, x.look(0, 4));
        due.is("no hunger", 0, x.look(0, 7));
        due.is("book", 0, x.look(0, 6));
    }

    private static void sellingNothingLooksAtNoLot(Due due) {
        EvenGranary x = Realms.with("b1000;n20;p0;o0");
        x.town(10, 30, 100);
        x.coin(100000);
        x.step(1);
        x.steal(0, 20);
        Due.edict(x, "b0;p0;o1");
        x.step(11);
        due.is("nothing was there to sell", 0, x.look(0, 11));
        due.is("month", 12, x.count(0));
        due.is("the lot with nothing stays", 1, x.look(0, 4));
        due.is("book", 20, x.look(0, 6));
        due.is("nothing is found", 0, x.missing(0, 0));
    }

    private static void buyingComesBeforeSelling(Due due) {
        EvenGranary x = Realms.with("b1000;n7;s0;m5;p0;o0");
        x.town(10, 30, 100);
        x.coin(100000);
        x.step(1);
        due.is("bought", 7, x.look(0, 10));
        due.is("sold", 0, x.look(0, 11));
        x.step(3);
        due.is("market", 0, x.look(0, 1));
        due.is("nothing to buy, and nothing is sold", 0, x.look(0, 11));
        Due.edict(x, "b999;s0;m5;p0;o0");
        x.step(1);
        due.is("sold", 5, x.look(0, 11));
    }

    private static void harvestTradeThenEating(Due due) {
        EvenGranary x = new EvenGranary();
        x.town(1000, 0, 50000);
        x.coin(1000000);
        x.harvest(0, 9000);
        x.step(1);
        due.is("bought at 100", 100, x.look(0, 10));
        due.is("coin", 990000, x.count(3));
        due.is("market", 7900, x.look(0, 1));
        x.step(7);
        due.is("market", 900, x.look(0, 1));
        due.is("not sold at 344", 0, x.look(0, 11));
        x.step(1);
        due.is("sold at 526", 100, x.look(0, 11));
        due.is("coin", 990000 + 52600, x.count(3));
        due.is("sold before it is eaten", 0, x.look(0, 7));
        x.step(1);
        due.is("hunger", 1000, x.look(0, 7));
    }

    private static void spoils(Due due) {
        EvenGranary x = Realms.with("a2;p50;o0;n7");
        x.town(1, 5000, 1000);
        x.step(2);
        due.is("too young", 0, x.look(0, 8));
        x.step(1);
        due.is("month 3", 4, x.look(0, 8));
        due.lot(x, 0, 0, 1, 3, 0);
        due.lot(x, 0, 1, 2, 7, 0);
        x.step(1);
        due.is("month 4", 10, x.look(0, 8));
        x.measure(0, 1);
        x.step(1);
        due.is("month 5", 17, x.look(0, 8));
        due.is("lots", 4, x.look(0, 4));
        due.lot(x, 0, 0, 2, 1, 1);
        due.lot(x, 0, 1, 3, 3, 0);
        due.lot(x, 0, 2, 4, 7, 0);
        due.lot(x, 0, 3, 5, 7, 0);
        due.is("true", 18, x.look(0, 5));
        due.is("nothing is missing", 0, x.missing(0, 0));
        Due.edict(x, "a1;p0;o0;n7");
        x.step(1);
        due.is("nothing spoils by p0", 17, x.look(0, 8));
        Due.edict(x, "a1;p100;o0;n7");
        x.step(1);
        due.is("all but the new one by p100", 17 + 25, x.look(0, 8));
        due.is("lots", 1, x.look(0, 4));
        due.lot(x, 0, 0, 7, 7, 0);
    }

    private static void spoilsWhatIsTrue(Due due) {
        EvenGranary x = Realms.with("a2;p50;o0;n7");
        x.town(1, 5000, 7);
        x.step(1);
        Due.edict(x, "a2;p50;o0;n0");
        x.steal(0, 4);
        x.step(2);
        due.is("half of 3", 2, x.look(0, 8));
        due.is("book", 5, x.look(0, 6));
        due.is("true", 1, x.look(0, 5));
        due.is("not found yet", 0, x.missing(0, 0));
        x.step(1);
        due.is("the last one", 3, x.look(0, 8));
        due.is("gone", 0, x.look(0, 4));
        due.is("found", 4, x.missing(0, 0));

        x = Realms.with("a3;p0;o0;n7");
        x.town(1, 5000, 7);
        x.step(1);
        x.steal(0, 7);
        Due.edict(x, "a3;p0;o0;n0");
        x.step(2);
        due.is("a lot with nothing stays", 1, x.look(0, 4));
        x.step(1);
        due.is("till it is old", 0, x.look(0, 4));
        due.is("found", 7, x.missing(0, 0));
        due.is("nothing was there to spoil", 0, x.look(0, 8));
    }

    private static void turnsOver(Due due) {
        EvenGranary x = Realms.with("n10;o7;p0");
        x.town(1, 5000, 1000);
        x.step(11);
        due.is("lots", 11, x.look(0, 4));
        x.step(1);
        due.is("lots", 11, x.look(0, 4));
        due.lot(x, 0, 0, 2, 2, 0);
        due.lot(x, 0, 1, 3, 10, 0);
        due.lot(x, 0, 10, 12, 28, 0);
        due.is("true", 120, x.look(0, 5));
        due.is("market", 5000 - 120 - 12, x.look(0, 1));

        x = Realms.with("n10;o0;p0");
        x.town(1, 5000, 1000);
        x.step(12);
        due.is("nothing by o0", 12, x.look(0, 4));
        due.lot(x, 0, 0, 1, 10, 0);

        x = Realms.with("n10;o1;p0");
        x.town(1, 5000, 1000);
        x.step(11);
        x.steal(0, 25);
        x.step(1);
        due.is("all by o1", 1, x.look(0, 4));
        due.lot(x, 0, 0, 12, 95, 0);
        due.is("found by it", 25, x.missing(0, 0));
        due.is("book", 95, x.look(0, 6));
        x.measure(0, 0);
        Due.edict(x, "n0;o1;p0");
        x.step(12);
        due.lot(x, 0, 0, 24, 95, 0);
    }

    private static void turnsOverWhatTheMarketHas(Due due) {
        EvenGranary x = Realms.with("b9999;n60;s9999;o1;p0");
        x.town(100, 1260, 60);
        x.coin(1000000);
        x.step(11);
        due.is("market", 100, x.look(0, 1));
        x.harvest(0, 25);
        x.step(1);
        due.lot(x, 0, 0, 1, 35, 0);
        due.lot(x, 0, 1, 12, 25, 0);
        due.is("market", 25, x.look(0, 1));
        due.is("true", 60, x.look(0, 5));
        x.step(12);
        due.is("nothing with no market", 2, x.look(0, 4));
        due.lot(x, 0, 0, 1, 35, 0);
    }

    private static void fortyLots(Due due) {
        EvenGranary x = Realms.with("n1;p0;o0");
        x.town(1, 5000, 1000);
        x.step(24);
        x.step(16);
        due.is("lots", 40, x.look(0, 4));
        x.measure(0, 39);
        x.measure(0, 38);
        x.step(5);
        due.is("no more of them", 40, x.look(0, 4));
        due.lot(x, 0, 0, 1, 1, 0);
        due.lot(x, 0, 38, 39, 1, 1);
        due.lot(x, 0, 39, 40, 6, 0);
        due.is("lot 40", NONE, x.lot(0, 40, 0));
        x.loan(0, 2);
        due.is("room for two lots", 38, x.look(0, 4));
        x.step(1);
        due.lot(x, 0, 37, 40, 6, 0);
        due.lot(x, 0, 38, 46, 1, 0);
        x.step(2);
        due.is("forty again", 40, x.look(0, 4));
        due.lot(x, 0, 39, 47, 2, 0);
    }

    private static void edictOfTheNextMonth(Due due) {
        EvenGranary x = Realms.with("n1;p0");
        x.town(1, 5000, 1000);
        x.step(1);
        due.is("by the first edict", 1, x.look(0, 10));
        Due.edict(x, "n9;p0");
        due.is("not before the next month", 1, x.look(0, 10));
        x.step(1);
        due.is("by the second edict", 10, x.look(0, 10));
    }
}
