/** MOVE, LOAN, FORETOLD and THE BEST MOVE, sentence by sentence, at and just beyond what bounds each of them. */
public final class MoveEdgesTest {
    private static final int NONE = EvenGranary.NONE;
    private static final String STILL = "b0;s9999;p0;o0";
    /** Stores sell to the hungry, and buy nothing. */
    private static final String SELLING = "b0;n0;p0;o0";

    public static void main(String[] args) {
        Due due = new Due("MoveEdgesTest");
        movesWhatIsTrue(due);
        cartsBetweenTwoMonths(due);
        wayOfOne(due);
        sixtyOnTheWay(due);
        loanIsRoundedUp(due);
        loanGoesToTheMarket(due);
        loanByTheNextEdict(due);
        foretoldHasNoHarvests(due);
        foretoldKnowsWhatIsOnTheWay(due);
        foretoldIsWhatComes(due);
        foretellingChangesNothing(due);
        foretoldByTheCoin(due);
        foretoldAtTheLastMonth(due);
        bestMovesAsManyAsItCan(due);
        bestMovesOneAtLeast(due);
        bestOfLikeOnes(due);
        noneIfItIsNotLess(due);
        bestOfRoadsFromIt(due);
        bestWithSixtyOnTheWay(due);
        due.end();
    }

    /** Month 1: town 0 holds some; the towns 1 and 2 eat 10 and 20, and have neither market nor corn. */
    private static EvenGranary hungry(int held) {
        EvenGranary x = Realms.held(SELLING, 1, 9000, 5000, held);
        x.town(10, 0, 5000);
        x.town(20, 0, 5000);
        return x;
    }

    private static void movesWhatIsTrue(Due due) {
        due.of("A MOVE takes measures (as many as are TRUE at least");
        EvenGranary x = hungry(50);
        x.road(0, 1, 1, 10000);
        due.is("51 of 50", false, x.move(0, 0, 51));
        x.steal(0, 8);
        due.is("43 of 42 that are true", false, x.move(0, 0, 43));
        due.is("42 of 42", true, x.move(0, 0, 42));
        due.is("true", 0, x.look(0, 5));
        due.is("one more", false, x.move(0, 0, 1));
        due.is("found by it", 8, x.missing(0, 0));
    }

    private static void cartsBetweenTwoMonths(Due due) {
        due.of("of one ROAD no more than CARTS between two MONTHS)");
        EvenGranary x = hungry(500);
        x.road(0, 1, 2, 30);
        x.road(0, 1, 2, 30);
        due.is("31", false, x.move(0, 0, 31));
        due.is("what was refused takes no carts", 0, x.count(10));
        due.is("29", true, x.move(0, 0, 29));
        due.is("2 more", false, x.move(0, 0, 2));
        due.is("1 more", true, x.move(0, 0, 1));
        due.is("1 more", false, x.move(0, 0, 1));
        due.is("carts of road 0", 30, x.count(10));
        due.is("carts of road 1", 0, x.count(11));
        due.is("30 by the other road", true, x.move(0, 1, 30));
        x.foretold(24);
        x.best(0, 24);
        due.is("carts of road 1", 30, x.count(11));
        x.step(1);
        due.is("carts of road 0 a month later", 0, x.count(10));
        due.is("carts of road 1 a month later", 0, x.count(11));
        due.is("30 again, though the others are on the way", true, x.move(0, 0, 30));
        due.is("on the way", 90, x.count(4));
    }

    private static void wayOfOne(Due due) {
        due.of("they come by the ROAD's WAY (1: in the next MONTH)");
        for (int way = 1; way <= 6; way++) {
            EvenGranary x = hungry(50);
            Due.edict(x, STILL);
            x.road(0, 1, way, 100);
            x.move(0, 0, 5);
            x.step(way);
            due.is("month of what came by way " + way, 1 + way, x.lot(1, 0, 0));
            due.is("on the way", 0, x.count(4));
        }
    }

    private static void sixtyOnTheWay(Due due) {
        due.of("60 are on the way");
        EvenGranary x = hungry(500);
        x.road(0, 1, 1, 10000);
        x.road(0, 2, 6, 10000);
        for (int i = 1; i <= 60; i++) {
            due.is("move " + i, true, x.move(0, i == 1 ? 0 : 1, 2));
        }
        due.is("move 61", false, x.move(0, 1, 1));
        due.is("by the other road", false, x.move(0, 0, 1));
        due.is("measures on the way", 120, x.count(4));
        due.is("true", 380, x.look(0, 5));
        x.step(1);
        due.is("one came, one more", true, x.move(0, 1, 1));
        due.is("and one more", false, x.move(0, 1, 1));
        x.step(5);
        due.is("on the way", 1, x.count(4));
        due.is("one more", true, x.move(0, 1, 1));
    }

    private static void loanIsRoundedUp(Due due) {
        due.of("it OWES them times l / 100 (of THE EDICT in force next MONTH), rounded up, more");
        int[][] hundredthsLentOwes = {{100, 7, 7}, {101, 1, 2}, {101, 99, 100}, {101, 100, 101}, {101, 101, 103}, {110, 10, 11}, {110, 1, 2},
                {110, 11, 13}, {199, 1, 2}, {200, 1, 2}, {201, 1, 3}, {9999, 1, 100}, {9999, 2, 200}, {9999, 300, 29997}};
        for (int[] row : hundredthsLentOwes) {
            EvenGranary x = Realms.held("l" + row[0] + ";" + STILL, 1, 0, 1000, 1000);
            due.is("l" + row[0] + " of " + row[1], row[2], x.loan(0, row[1]));
            due.is("l" + row[0] + " of " + row[1] + ", more", 2 * row[2], x.loan(0, row[1]));
            due.is("owes", 2 * row[2], x.look(0, 9));
        }
    }

    private static void loanGoesToTheMarket(Due due) {
        due.of("A LOAN takes measures to the TOWN's MARKET");
        EvenGranary x = Realms.held(STILL, 1, 100, 1000, 50);
        due.is("51 of 50", NONE, x.loan(0, 51));
        x.steal(0, 10);
        due.is("41 of 40 that are true", NONE, x.loan(0, 41));
        due.is("40 of 40", 44, x.loan(0, 40));
        due.is("market", 140, x.look(0, 1));
        due.is("true", 0, x.look(0, 5));
        due.is("lots", 0, x.look(0, 4));
        due.is("one more", NONE, x.loan(0, 1));
    }

    private static void loanByTheNextEdict(Due due) {
        due.of("(of THE EDICT in force next MONTH)");
        EvenGranary x = Realms.held("l150;" + STILL, 1, 0, 1000, 100);
        due.is("by l150", 15, x.loan(0, 10));
        Due.edict(x, "l300;" + STILL);
        due.is("by l300, told since", 45, x.loan(0, 10));
        Due.edict(x, "l99;" + STILL);
        due.is("by l300, behind a fault", 75, x.loan(0, 10));
        Due.edict(x, STILL);
        due.is("by 110, as at first", 86, x.loan(0, 10));
    }

    private static void foretoldHasNoHarvests(Due due) {
        due.of("the HUNGER that would come in all if there were no HARVESTS (not even told ones)");
        EvenGranary x = Realms.held(STILL, 10, 25, 0, 0);
        due.is("1 month", 0, x.foretold(1));
        due.is("2 months", 0, x.foretold(2));
        due.is("3 months", 5, x.foretold(3));
        due.is("24 months", 215, x.foretold(24));
        x.harvest(0, 100000);
        due.is("3 months, with a harvest told", 5, x.foretold(3));
        due.is("again", 5, x.foretold(3));
        x.step(1);
        due.is("the harvest came", 25 + 100000 - 10, x.look(0, 1));
        due.is("24 months, behind it", 0, x.foretold(24));
        x.town(7, 6, 0);
        due.is("in all towns", 1 + 23 * 7, x.foretold(24));
    }

    private static void foretoldKnowsWhatIsOnTheWay(Due due) {
        due.of("MOVES and LOANS more");
        EvenGranary x = hungry(50);
        x.road(0, 1, 3, 100);
        due.is("without a move", 120, x.foretold(4));
        x.move(0, 0, 15);
        due.is("2 months, a move is on the way for 3", 60, x.foretold(2));
        due.is("3 months", 80, x.foretold(3));
        due.is("4 months", 105, x.foretold(4));

        x = Realms.held(STILL, 10, 0, 100, 20);
        x.loan(0, 20);
        x.step(1);
        due.is("8 months: 10 are left, and nothing is paid back of nothing", 70, x.foretold(8));
        x.harvest(0, 1000);
        x.step(1);
        due.is("market", 1000, x.look(0, 1));
        Due.edict(x, "b0;s9999;l9999;p0;o0");
        due.is("owes", 22, x.look(0, 9));
        due.is("24 months: 22 are paid back in month 9", 0, x.foretold(24));
    }

    /** A realm in which lots of many ages spoil, are turned over and sold, loans are paid back and carts come. */
    private static EvenGranary busy() {
        EvenGranary x = Realms.with("b9999;n30;s9999;p0;o0");
        x.coin(1000000000);
        x.town(10, 180, 200);
        x.town(25, 300, 60);
        x.road(0, 1, 4, 50);
        x.step(4);
        x.steal(0, 35);
        x.measure(0, 2);
        x.loan(1, 20);
        x.move(0, 0, 9);
        x.coin(900);
        Due.edict(x, "b80;n9;s500;m4;a5;p30;o3");
        return x;
    }

    private static void foretoldIsWhatComes(Due due) {
        due.of("FORETOLD for n MONTHS");
        for (int n = 1; n <= 24; n++) {
            EvenGranary x = busy();
            long before = x.count(6);
            long told = x.foretold(n);
            x.step(n);
            due.is("foretold(" + n + ")", x.count(6) - before, told);
        }
        due.is("it is more than nothing", true, busy().foretold(12) > 0);
        // Three lots of 10, a third of which spoils away before it can be sold in the fourth month.
        EvenGranary x = Realms.lots(3, 10);
        x.town(40, 120, 0);
        x.road(0, 1, 4, 100);
        Due.edict(x, "n0;s9999;a2;p50;o0");
        due.is("4 months", 40, x.foretold(4));
        x.move(0, 0, 30);
        due.is("4 months, with all of them on the way", 10, x.foretold(4));
    }

    private static void foretellingChangesNothing(Due due) {
        due.of("the HUNGER that would come");
        EvenGranary same = busy();
        EvenGranary x = busy();
        for (EvenGranary each : new EvenGranary[] {same, x}) {
            each.harvest(0, 17);
            each.harvest(1, 40);
        }
        for (int n : new int[] {24, 1, 12}) {
            x.foretold(n);
            x.best(0, n);
            x.best(1, n);
        }
        due.is("all is as without", true, Realms.state(same).equals(Realms.state(x)));
        due.is("harvests come as without", same.step(1), x.step(1));
        due.is("and all goes on as without", true, Realms.state(same).equals(Realms.state(x)));
    }

    private static void foretoldByTheCoin(Due due) {
        due.of("the HUNGER that would come in all");
        int[][] coinForetold = {{0, 0}, {8099, 0}, {8100, 1}, {8999, 9}, {9000, 10}, {90000, 10}};
        for (int[] row : coinForetold) {
            EvenGranary x = Realms.held("b100;n100;p0;o0", 10, 90, 1000, 0);
            x.coin(row[0]);
            due.is("foretold(1) with a coin of " + row[0], row[1], x.foretold(1));
            due.is("the coin stays", row[0], x.count(3));
        }
    }

    private static void foretoldAtTheLastMonth(Due due) {
        due.of("FORETOLD for n MONTHS (1 to 24); NONE: no such n.");
        EvenGranary x = Realms.with(STILL);
        x.town(3, 0, 0);
        Realms.months(x, 2000);
        due.is("month", 2000, x.count(0));
        due.is("a month more is refused", NONE, x.step(1));
        due.is("but foretold", 72, x.foretold(24));
    }

    private static void bestMovesAsManyAsItCan(Due due) {
        due.of("as many as its CARTS still let (or as are TRUE, if these are fewer");
        EvenGranary x = hungry(50);
        x.road(0, 1, 1, 30);
        x.road(0, 2, 1, 29);
        due.is("30 by carts against 29", 0, x.best(0, 24));
        x.move(0, 0, 2);
        due.is("28 that carts still let against 29", 1, x.best(0, 24));
        x.steal(0, 20);
        due.is("28 against 28 that are true", 0, x.best(0, 24));
        x.steal(0, 1);
        due.is("27 against 27", 0, x.best(0, 24));
        x.move(0, 0, 20);
        due.is("7 against 7 that are true", 0, x.best(0, 24));
        x.step(1);
        due.is("30 and 29 may go again, 7 are true", 0, x.best(0, 24));
    }

    private static void bestMovesOneAtLeast(Due due) {
        due.of("1 at least");
        EvenGranary x = hungry(50);
        x.road(0, 1, 1, 1);
        x.road(0, 2, 1, 2);
        x.move(0, 1, 1);
        due.is("one by each", 0, x.best(0, 24));
        x.move(0, 0, 1);
        due.is("no carts by one of them", 1, x.best(0, 24));
        x.move(0, 1, 1);
        due.is("no carts by both", NONE, x.best(0, 24));
        x.step(1);
        x.steal(0, 46);
        due.is("true", 1, x.look(0, 5));
        due.is("one is true", 0, x.best(0, 24));
        x.steal(0, 1);
        due.is("none is true", NONE, x.best(0, 24));
        due.is("from a town that never had corn", NONE, x.best(1, 24));
    }

    private static void bestOfLikeOnes(Due due) {
        due.of("of like ones the lowest");
        EvenGranary x = hungry(50);
        x.road(0, 1, 6, 100);
        x.road(0, 2, 2, 30);
        x.road(1, 0, 2, 30);
        x.road(0, 1, 1, 30);
        due.is("5 months: 30 by three of them", 1, x.best(0, 5));
        due.is("2 months: 10 by 2, 20 by 1 and 3", 1, x.best(0, 2));
        due.is("6 months: 10 by 0, 30 by the others", 1, x.best(0, 6));
        due.is("1 month: by 3 alone", 3, x.best(0, 1));
        due.is("24 months: 50 by 0", 0, x.best(0, 24));
    }

    private static void noneIfItIsNotLess(Due due) {
        due.of("none if that is not less than without");
        EvenGranary x = hungry(50);
        x.town(1, 9000, 0);
        x.road(0, 3, 1, 100);
        x.road(0, 1, 6, 100);
        due.is("as much: to one that is not hungry, and too far", NONE, x.best(0, 5));
        due.is("less: not too far", 1, x.best(0, 6));

        x = Realms.held(SELLING, 10, 0, 100, 50);
        x.town(1, 9000, 100);
        x.road(0, 1, 1, 100);
        due.is("foretold", 0, x.foretold(5));
        due.is("more: its own corn goes away", NONE, x.best(0, 5));
        due.is("more, where there is hunger", NONE, x.best(0, 6));

        x = Realms.with("b0;n1;p0;o0");
        x.town(1, 9000, 5000);
        x.town(10, 9, 0);
        x.road(0, 1, 1, 100);
        x.step(1);
        x.harvest(1, 19);
        x.step(1);
        due.is("foretold: one is lacking", 1, x.foretold(1));
        due.is("none is lacking then", 0, x.best(0, 1));
    }

    private static void bestOfRoadsFromIt(Due due) {
        due.of("of all ROADS from it");
        EvenGranary x = hungry(50);
        x.road(1, 2, 1, 100);
        due.is("no road from it", NONE, x.best(0, 24));
        x.road(2, 0, 1, 10);
        due.is("by its other end", 1, x.best(0, 24));
        due.is("from the other town, that has nothing", NONE, x.best(2, 24));
        x.move(0, 1, 10);
        x.town(1, 9000, 100);
        due.is("from a town without roads", NONE, x.best(3, 24));
        for (int r = 2; r < 11; r++) {
            x.road(0, 3, 1, 100);
        }
        x.road(0, 1, 1, 100);
        due.is("by the last of twelve", 11, x.best(0, 24));
    }

    private static void bestWithSixtyOnTheWay(Due due) {
        due.of("moved now");
        EvenGranary x = hungry(500);
        x.road(0, 1, 6, 10000);
        x.road(0, 2, 1, 10000);
        for (int i = 0; i < 59; i++) {
            x.move(0, 0, 1);
        }
        due.is("59 are on the way", 1, x.best(0, 5));
        x.move(0, 0, 1);
        due.is("60 are on the way", NONE, x.best(0, 5));
    }
}
