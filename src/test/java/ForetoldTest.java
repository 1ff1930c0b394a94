/** Promise 15: foretold; promise 16: best. */
public final class ForetoldTest {
    private static final int NONE = EvenGranary.NONE;

    public static void main(String[] args) {
        Due due = new Due("ForetoldTest");
        wrongCalls(due);
        knowsNoHarvest(due);
        changesNothing(due);
        knowsCartsAndLoans(due);
        goesByTheNextEdict(due);
        knowsTheCoin(due);
        bestOfAllRoads(due);
        lowestOfLikeOnes(due);
        bestBothWays(due);
        cartsAndTrueLimitIt(due);
        noneIfItSparesNothing(due);
        sixtyOnTheWay(due);
        due.end();
    }

    private static void wrongCalls(Due due) {
        EvenGranary x = new EvenGranary();
        x.town(5, 0, 0);
        for (int n : new int[] {0, -1, 25, Integer.MIN_VALUE, Integer.MAX_VALUE}) {
            due.is("foretold(" + n + ")", NONE, x.foretold(n));
            due.is("best(0, " + n + ")", NONE, x.best(0, n));
        }
        for (int t : new int[] {-1, 1, 8, Integer.MIN_VALUE, Integer.MAX_VALUE}) {
            due.is("best(" + t + ", 1)", NONE, x.best(t, 1));
        }
        due.is("foretold(1)", 5, x.foretold(1));
        due.is("foretold(24)", 120, x.foretold(24));
        x.town(7, 8, 0);
        due.is("of all towns", 24 * 5 + 23 * 7 - 1, x.foretold(24));
        due.is("no roads", NONE, x.best(0, 24));
    }

    private static void knowsNoHarvest(Due due) {
        EvenGranary x = new EvenGranary();
        x.town(5, 7, 0);
        due.is("foretold", 8, x.foretold(3));
        x.harvest(0, 100);
        due.is("not even a told one", 8, x.foretold(3));
        x.step(1);
        due.is("the told one came all the same", 102, x.look(0, 1));
        due.is("foretold: 102 feed 20 months", 4 * 5 - 2, x.foretold(24));
    }

    private static void changesNothing(Due due) {
        EvenGranary x = new EvenGranary();
        Due.edict(x, "n10;a2;p50;o2");
        x.town(1, 1200, 1000);
        x.town(30, 100, 20);
        x.road(0, 1, 2, 50);
        x.coin(5000);
        x.step(7);
        x.steal(0, 3);
        x.measure(0, 2);
        x.loan(0, 4);
        x.move(0, 0, 5);
        x.harvest(1, 77);
        String before = Realms.state(x);
        x.foretold(24);
        x.best(0, 24);
        x.best(1, 24);
        due.is("nothing is changed", true, before.equals(Realms.state(x)));
        long first = x.foretold(24);
        due.is("the same again", first, x.foretold(24));
    }

    /** Town 0 with 100 measures in its store and a full market; 1 and 2 have nothing and eat 10 and 20. */
    private static EvenGranary hungry() {
        EvenGranary x = new EvenGranary();
        Due.edict(x, "p0;o0");
        x.town(1, 9000, 100);
        x.town(10, 0, 100);
        x.town(20, 0, 100);
        x.step(1);
        return x;
    }

    private static void knowsCartsAndLoans(Due due) {
        EvenGranary x = hungry();
        x.road(0, 1, 2, 100);
        due.is("without carts", 90, x.foretold(3));
        x.move(0, 0, 15);
        due.is("carts come in two months", 90 - 15, x.foretold(3));
        due.is("not before", 30, x.foretold(1));
        due.is("not before", 60 - 10, x.foretold(2));
        x = new EvenGranary();
        Due.edict(x, "p0;o0;b9999;n50;s9999");
        x.town(10, 150, 50);
        x.coin(1000000);
        x.step(1);
        x.loan(0, 50);
        Due.edict(x, "p0;o0;b0;s9999");
        // 140 measures are in the market; 55 of them are paid back in month 9.
        due.is("market", 140, x.look(0, 1));
        due.is("till month 8", 0, x.foretold(7));
        x.step(7);
        due.is("market in month 8", 70, x.look(0, 1));
        due.is("what is paid back is not eaten", 0, x.foretold(2));
        due.is("50 is the room of it", 10, x.foretold(3));
    }

    private static void goesByTheNextEdict(Due due) {
        EvenGranary x = new EvenGranary();
        Due.edict(x, "b9999;n50;p0;o0");
        x.town(10, 60, 50);
        x.coin(1000000);
        x.step(1);
        due.is("market", 0, x.look(0, 1));
        due.is("it buys at every price, so it never sells", 30, x.foretold(3));
        Due.edict(x, "p0;o0");
        due.is("it sells", 0, x.foretold(5));
        Due.edict(x, "p0;o0;m4");
        due.is("it sells few", 30 - 12, x.foretold(3));
    }

    private static void knowsTheCoin(Due due) {
        EvenGranary x = new EvenGranary();
        x.town(10, 90, 1000);
        due.is("without coin nothing is bought", 0, x.foretold(1));
        x.coin(8500);
        due.is("85 of 90 are bought", 5, x.foretold(1));
        due.is("the coin stays", 8500, x.count(3));
    }

    private static void bestOfAllRoads(Due due) {
        EvenGranary x = hungry();
        x.road(0, 1, 1, 30);
        x.road(0, 2, 2, 30);
        x.road(2, 0, 1, 100);
        x.road(1, 2, 1, 100);
        due.is("foretold", 90, x.foretold(3));
        due.is("best for 1", 2, x.best(0, 1));
        due.is("best for 3", 2, x.best(0, 3));
        due.is("nothing to move from 1", NONE, x.best(1, 3));
        x.move(0, 2, 100);
        due.is("nothing is left to move", NONE, x.best(0, 3));
        due.is("foretold then", 30, x.foretold(3));
    }

    private static void lowestOfLikeOnes(Due due) {
        EvenGranary x = hungry();
        x.road(0, 1, 6, 100);
        x.road(0, 2, 2, 30);
        x.road(0, 1, 1, 30);
        x.road(0, 1, 1, 40);
        due.is("for 3: 30 by each of them", 1, x.best(0, 3));
        due.is("for 2: 20 by each of them", 1, x.best(0, 2));
        due.is("for 1", 2, x.best(0, 1));
        due.is("for 4: 40 by the last", 3, x.best(0, 4));
    }

    private static void bestBothWays(Due due) {
        EvenGranary x = hungry();
        x.road(1, 2, 1, 100);
        x.road(1, 0, 1, 50);
        due.is("the end of a road is a beginning, too", 1, x.best(0, 3));
        due.is("a road of others is none of its own", NONE, x.best(2, 3));
    }

    private static void cartsAndTrueLimitIt(Due due) {
        EvenGranary x = hungry();
        x.road(0, 1, 1, 25);
        x.road(0, 2, 1, 24);
        due.is("25 against 24", 0, x.best(0, 3));
        x.move(0, 0, 2);
        // 23 more would spare 23 of town 1 (2 are on the way), 24 more spare 24 of town 2.
        due.is("23 against 24", 1, x.best(0, 3));
        x.steal(0, 78);
        due.is("true", 20, x.look(0, 5));
        due.is("20 against 20", 0, x.best(0, 3));
        x.move(0, 1, 20);
        due.is("none is left", NONE, x.best(0, 3));
    }

    private static void noneIfItSparesNothing(Due due) {
        EvenGranary x = hungry();
        x.town(1, 9000, 100);
        x.road(0, 3, 1, 100);
        due.is("a town that has enough", NONE, x.best(0, 24));
        x.road(0, 1, 6, 100);
        due.is("too far", NONE, x.best(0, 5));
        due.is("not too far", 1, x.best(0, 6));
    }

    private static void sixtyOnTheWay(Due due) {
        EvenGranary x = hungry();
        x.road(0, 1, 1, 100);
        x.road(0, 2, 1, 100);
        for (int i = 0; i < 59; i++) {
            x.move(0, 0, 1);
        }
        due.is("one more can go", 0, x.best(0, 24));
        x.move(0, 0, 1);
        due.is("none more can go", NONE, x.best(0, 24));
        x.step(1);
        due.is("they came", 0, x.best(0, 24));
    }
}
