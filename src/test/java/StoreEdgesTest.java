/** 'Terms', sentence by sentence: LOTS, BOOK and TRUE, what is taken and comes, STEALS, TO MEASURE and MISSING. */
public final class StoreEdgesTest {
    private static final int NONE = EvenGranary.NONE;

    public static void main(String[] args) {
        Due due = new Due("StoreEdgesTest");
        fortyLotsAtMost(due);
        oldestFirst(due);
        trueIsNeverMoreThanBook(due);
        takesFromTheOldest(due);
        emptiedLotIsGone(due);
        lotsWithNothingAreGone(due);
        everyTakingFinds(due);
        nothingTakenComesToNoLot(due);
        oneLotAMonth(due);
        nothingThatComesIsNoLot(due);
        comesToTheLastOfForty(due);
        lastOfFortyKeepsItsMonth(due);
        turningOverWithForty(due);
        stealsTrueNotBook(due);
        stealsUpToTheEndOfALot(due);
        lotWithNothingStays(due);
        measuring(due);
        measuringOneWithNothing(due);
        missingAtLeast(due);
        missingOfLotsNotMeasured(due);
        missingOfLotsToWhichMoreCame(due);
        missingOfLotsStolenFrom(due);
        due.end();
    }

    private static void fortyLotsAtMost(Due due) {
        due.of("A STORE has LOTS, 40 at most");
        EvenGranary x = Realms.lots(39, 1);
        due.is("39 months", 39, x.look(0, 4));
        due.is("lot(0, 39, 0)", NONE, x.lot(0, 39, 0));
        x.step(1);
        due.is("40 months", 40, x.look(0, 4));
        due.is("lot(0, 39, 0)", 40, x.lot(0, 39, 0));
        x.step(1);
        due.is("41 months", 40, x.look(0, 4));
        due.is("lot(0, 40, 0)", NONE, x.lot(0, 40, 0));
        due.is("nothing is lost", 41, x.look(0, 5));
    }

    private static void oldestFirst(Due due) {
        due.of("the oldest first, each from a MONTH");
        EvenGranary x = Realms.lots(3, 10);
        for (int i = 0; i < 3; i++) {
            due.lot(x, 0, i, i + 1, 10, 0);
        }
    }

    private static void trueIsNeverMoreThanBook(Due due) {
        due.of("with what the BOOK shows and what is TRUE (never more)");
        EvenGranary x = Realms.lots(2, 10);
        due.is("true", 20, x.look(0, 5));
        due.is("book", 20, x.look(0, 6));
        x.steal(0, 5);
        due.is("true", 15, x.look(0, 5));
        due.is("book", 20, x.look(0, 6));
        Due.edict(x, "n0;a1;p20;o0");
        x.step(1);
        due.is("true: 1 of 5 and 2 of 10 are spoilt", 12, x.look(0, 5));
        due.is("book", 17, x.look(0, 6));
        x.loan(0, 4);
        due.is("true", 8, x.look(0, 5));
        due.is("book: the 5 of the first lot are found", 8, x.look(0, 6));
    }

    private static void takesFromTheOldest(Due due) {
        due.of("of each as much as is TRUE, BOOK and TRUE less by it, till there is enough");
        EvenGranary x = Realms.lots(3, 10);
        x.loan(0, 9);
        due.is("lots, one is left of the first", 3, x.look(0, 4));
        due.lot(x, 0, 0, 1, 1);
        due.lot(x, 0, 1, 2, 10);
        x.loan(0, 1);
        due.is("lots, none is left of it", 2, x.look(0, 4));
        due.lot(x, 0, 0, 2, 10);
        x.loan(0, 11);
        due.is("lots, one of the last is taken", 1, x.look(0, 4));
        due.lot(x, 0, 0, 3, 9);
        x.loan(0, 9);
        due.is("no lots", 0, x.look(0, 4));
        due.is("nothing was missing", 0, x.missing(0, 0));
    }

    private static void emptiedLotIsGone(Due due) {
        due.of("a LOT to which one comes so, and of which nothing is TRUE then, is gone: what its BOOK shows then is FOUND to be missing");
        EvenGranary x = Realms.lots(2, 10);
        x.steal(0, 4);
        x.loan(0, 5);
        due.is("lots, one is true of the first", 2, x.look(0, 4));
        due.lot(x, 0, 0, 1, 5);
        due.is("found", 0, x.missing(0, 0));
        x.loan(0, 1);
        due.is("lots", 1, x.look(0, 4));
        due.is("found", 4, x.missing(0, 0));
        due.lot(x, 0, 0, 2, 10);
    }

    private static void lotsWithNothingAreGone(Due due) {
        due.of("a LOT to which one comes so");
        EvenGranary x = Realms.lots(3, 10);
        x.steal(0, 20);
        x.loan(0, 1);
        due.is("lots, two with nothing were come to", 1, x.look(0, 4));
        due.is("found", 20, x.missing(0, 0));
        due.lot(x, 0, 0, 3, 9);

        x = Realms.lots(4, 10);
        x.steal(0, 23);
        x.loan(0, 7);
        due.is("lots, the one behind was not come to", 1, x.look(0, 4));
        due.is("found", 23, x.missing(0, 0));
        due.lot(x, 0, 0, 4, 10);
    }

    /** A lot of ten of which a clerk took four, before two whole ones; six more are taken in every way there is. */
    private static void everyTakingFinds(Due due) {
        due.of("What is taken from a STORE is taken from its oldest LOTS");
        EvenGranary moved = Realms.lotsAndRoad(3, 10, 1);
        moved.steal(0, 4);
        moved.move(0, 0, 6);
        foundFour(due, "by a move", moved, 2, 2);

        EvenGranary sold = Realms.with("n10;p0;o0");
        sold.town(1, 1010, 1000);
        sold.coin(1000);
        sold.step(3);
        sold.steal(0, 4);
        Due.edict(sold, "b0;s1;m6;p0;o0");
        sold.step(1);
        due.is("sold", 6, sold.look(0, 11));
        foundFour(due, "by selling", sold, 2, 2);

        EvenGranary turned = Realms.lots(11, 10);
        turned.steal(0, 4);
        Due.edict(turned, "n0;p0;o18");
        turned.step(1);
        foundFour(due, "by turning over", turned, 11, 2);
        due.lot(turned, 0, 10, 12, 6);
    }

    private static void foundFour(Due due, String how, EvenGranary x, int lots, int month) {
        due.is("found " + how, 4, x.missing(0, 0));
        due.is("lots " + how, lots, x.look(0, 4));
        due.lot(x, 0, 0, month, 10);
    }

    private static void nothingTakenComesToNoLot(Due due) {
        due.of("till there is enough");
        EvenGranary x = Realms.with("b1000;n20;p0;o0");
        x.town(10, 30, 100);
        x.coin(100000);
        x.step(1);
        x.steal(0, 20);
        Due.edict(x, "b0;s0;p0;o1");
        x.step(11);
        due.is("lots, selling and turning over nothing", 1, x.look(0, 4));
        due.is("found", 0, x.missing(0, 0));
        due.is("book", 20, x.look(0, 6));
    }

    private static void oneLotAMonth(Due due) {
        due.of("What comes into a STORE in a MONTH is one LOT (of this MONTH, the last)");
        EvenGranary x = Realms.with("n10;p0;o4");
        x.town(1, 50000, 1000);
        x.town(1, 50000, 1000);
        x.road(0, 1, 1, 100);
        x.step(8);
        due.is("loan", 6, x.loan(0, 5));
        x.move(1, 0, 7);
        x.step(1);
        due.is("lots", 9, x.look(0, 4));
        due.lot(x, 0, 8, 9, 7 + 6 + 10, 0);
        x.step(2);
        x.move(1, 0, 3);
        x.step(1);
        due.is("true", 131, x.look(0, 5));
        due.is("lots: 33 are turned over, three lots and 8 of 10", 12 - 3, x.look(0, 4));
        due.lot(x, 0, 8, 12, 3 + 10 + 33, 0);

        x = Realms.lots(3, 10);
        x.steal(0, 4);
        x.loan(0, 21);
        x.step(1);
        due.is("lots, two were gone before", 2, x.look(0, 4));
        due.lot(x, 0, 1, 4, 10, 0);
        due.is("the new lot has nothing of those that are gone", 0, x.measure(0, 1));
        due.lot(x, 0, 1, 4, 10, 1);
    }

    private static void nothingThatComesIsNoLot(Due due) {
        due.of("What comes into a STORE");
        EvenGranary x = Realms.with("n0;p0;o1");
        x.town(1, 50000, 10);
        x.step(12);
        due.is("lots, nothing bought, paid back or turned over", 0, x.look(0, 4));
        Due.edict(x, "n10;p0;o0");
        x.town(1, 50000, 10);
        x.road(0, 1, 1, 100);
        x.step(2);
        due.is("lots, full", 1, x.look(0, 4));
        x.move(1, 0, 10);
        x.step(1);
        due.is("lots, no room for carts", 1, x.look(0, 4));
        due.lot(x, 0, 0, 13, 10);
    }

    private static void comesToTheLastOfForty(Due due) {
        due.of("if 40 are there (and the last is of another MONTH) it comes to that last one");
        EvenGranary x = Realms.lotsAndRoad(39, 1, 1);
        x.step(1);
        x.move(1, 0, 1);
        due.lot(x, 0, 38, 39, 1, 0);
        due.lot(x, 0, 39, 40, 1, 0);
        x.step(1);
        due.lot(x, 0, 38, 39, 1, 0);
        due.lot(x, 0, 39, 40, 1 + 1 + 1, 0);
        x.loan(0, 1);
        due.is("lots", 39, x.look(0, 4));
        x.step(1);
        due.is("lots", 40, x.look(0, 4));
        due.lot(x, 0, 38, 40, 3, 0);
        due.lot(x, 0, 39, 42, 1, 0);

        x = Realms.lotsAndRoad(38, 1, 1);
        x.step(1);
        x.move(1, 0, 1);
        x.step(1);
        due.is("lots", 40, x.look(0, 4));
        due.lot(x, 0, 39, 40, 1 + 1, 0);
    }

    private static void lastOfFortyKeepsItsMonth(Due due) {
        due.of("Of each LOT from a MONTH that is a MONTHS or more ago");
        EvenGranary x = Realms.lots(41, 1);
        Due.edict(x, "n0;a3;p100;o0");
        x.step(1);
        due.is("lots in month 42: those from 1 to 39 are gone", 1, x.look(0, 4));
        due.lot(x, 0, 0, 40, 2);
        x.step(1);
        due.is("lots in month 43: what came in 41 is old by 40", 0, x.look(0, 4));
        due.is("spoilt", 41, x.look(0, 8));
    }

    private static void turningOverWithForty(Due due) {
        due.of("is taken and comes into it anew (a LOT of this MONTH)");
        EvenGranary x = Realms.lots(47, 3);
        due.lot(x, 0, 39, 40, 3 * 8, 0);
        Due.edict(x, "n0;p0;o100");
        x.step(1);
        due.is("lots, 2 of the oldest are turned over", 40, x.look(0, 4));
        due.lot(x, 0, 0, 1, 1, 0);
        due.lot(x, 0, 39, 40, 24 + 2, 0);
        x.steal(0, 1);
        x.measure(0, 0);
        x.step(12);
        due.is("lots, 2 of the next are turned over to a new one", 40, x.look(0, 4));
        due.lot(x, 0, 0, 2, 1, 0);
        due.lot(x, 0, 38, 40, 26, 0);
        due.lot(x, 0, 39, 60, 2, 0);
    }

    private static void stealsTrueNotBook(Due due) {
        due.of("A clerk STEALS: from the oldest LOTS, of each as much as is TRUE, TRUE is less, BOOK not");
        EvenGranary x = Realms.lots(2, 10);
        due.is("steal(0, 21)", false, x.steal(0, 21));
        due.is("steal(0, 11)", true, x.steal(0, 11));
        due.is("true", 9, x.look(0, 5));
        due.is("book", 20, x.look(0, 6));
        due.is("stolen", 11, x.look(0, 12));
        due.is("steal(0, 10)", false, x.steal(0, 10));
        due.is("found of the second", 1, x.measure(0, 1));
        due.is("found of the first", 10, x.measure(0, 0));
        due.is("steal(0, 9)", true, x.steal(0, 9));
        due.is("stolen", 20, x.look(0, 12));
        due.is("steal(0, 1)", false, x.steal(0, 1));
    }

    private static void stealsUpToTheEndOfALot(Due due) {
        due.of("of each as much as is TRUE");
        EvenGranary x = Realms.lots(2, 10);
        x.measure(0, 0);
        x.measure(0, 1);
        x.steal(0, 10);
        due.lot(x, 0, 0, 1, 10, 0);
        due.lot(x, 0, 1, 2, 10, 1);
        x.steal(0, 1);
        due.lot(x, 0, 1, 2, 10, 0);
    }

    private static void lotWithNothingStays(Due due) {
        due.of("(A LOT of which nothing is TRUE stays, then, till it is looked at.)");
        EvenGranary x = Realms.lots(2, 10);
        x.steal(0, 20);
        due.is("lots", 2, x.look(0, 4));
        x.step(1);
        due.is("lots a month later", 3, x.look(0, 4));
        due.is("found", 0, x.missing(0, 0));
        x.measure(0, 1);
        due.is("lots, one was looked at", 2, x.look(0, 4));
        x.loan(0, 1);
        due.is("lots, the other too", 1, x.look(0, 4));
        due.is("found", 20, x.missing(0, 0));
    }

    private static void measuring(Due due) {
        due.of("TO MEASURE a LOT: BOOK becomes TRUE, what was more is FOUND");
        EvenGranary x = Realms.lots(2, 10);
        x.steal(0, 9);
        due.is("measure(0, 0)", 9, x.measure(0, 0));
        due.is("lots, one is true of it", 2, x.look(0, 4));
        due.lot(x, 0, 0, 1, 1, 1);
        due.is("found", 9, x.missing(0, 0));
        due.is("again", 0, x.measure(0, 0));
        due.is("the other", 0, x.measure(0, 1));
        due.is("found", 9, x.missing(0, 0));
        due.is("book", 11, x.look(0, 6));
    }

    private static void measuringOneWithNothing(Due due) {
        due.of("(one with nothing is gone)");
        EvenGranary x = Realms.lots(4, 10);
        x.steal(0, 20);
        due.is("measure(0, 1)", 10, x.measure(0, 1));
        due.is("lots", 3, x.look(0, 4));
        due.lot(x, 0, 0, 1, 10, 0);
        due.lot(x, 0, 1, 3, 10, 0);
        due.lot(x, 0, 2, 4, 10, 0);
        due.is("measure(0, 3)", NONE, x.measure(0, 3));
        x.steal(0, 20);
        due.is("the last", 10, x.measure(0, 2));
        due.is("the first", 10, x.measure(0, 0));
        due.is("the only one", 10, x.measure(0, 0));
        due.is("lots", 0, x.look(0, 4));
        due.is("there is none more", NONE, x.measure(0, 0));
        due.is("found", 40, x.missing(0, 0));
    }

    private static void missingAtLeast(Due due) {
        due.of("MISSING of a STORE lies between what was FOUND in it ever");
        EvenGranary x = Realms.lots(4, 10);
        due.is("at first", 0, x.missing(0, 0));
        x.steal(0, 13);
        due.is("what is stolen is not found yet", 0, x.missing(0, 0));
        x.measure(0, 1);
        due.is("by measuring", 3, x.missing(0, 0));
        x.loan(0, 1);
        due.is("by taking", 13, x.missing(0, 0));
        x.steal(0, 7);
        Due.edict(x, "n0;a3;p100;o0");
        x.step(1);
        due.is("by spoiling: the lot of month 2, of which nothing is true", 13 + 6, x.missing(0, 0));
        x.step(1);
        due.is("and that of month 3, where 9 of 10 were true", 13 + 6 + 1, x.missing(0, 0));
    }

    private static void missingOfLotsNotMeasured(Due due) {
        due.of("and that with the BOOK of all its LOTS that were not MEASURED since they came");
        EvenGranary x = Realms.lots(2, 10);
        due.is("none measured", 20, x.missing(0, 1));
        x.measure(0, 0);
        due.is("one measured", 10, x.missing(0, 1));
        x.step(1);
        due.is("one more came", 20, x.missing(0, 1));
        x.measure(0, 1);
        x.measure(0, 2);
        due.is("all measured", 0, x.missing(0, 1));
        x.loan(0, 3);
        due.is("what is taken makes no lot unmeasured", 0, x.missing(0, 1));
        Due.edict(x, "n0;a1;p50;o0");
        x.step(1);
        due.is("nor does what is spoilt", 0, x.missing(0, 1));
        due.lot(x, 0, 0, 1, 3, 1);
    }

    private static void missingOfLotsToWhichMoreCame(Due due) {
        due.of("more came to them");
        EvenGranary x = Realms.lots(40, 2);
        x.measure(0, 38);
        x.measure(0, 39);
        due.is("the last two of forty are measured", 76, x.missing(0, 1));
        x.step(1);
        due.is("more came to the last", 76 + 4, x.missing(0, 1));
        due.is("lot(0, 38, 2)", 1, x.lot(0, 38, 2));
        due.is("lot(0, 39, 2)", 0, x.lot(0, 39, 2));
    }

    private static void missingOfLotsStolenFrom(Due due) {
        due.of("or a clerk STOLE from them");
        EvenGranary x = Realms.lots(2, 10);
        x.measure(0, 0);
        x.measure(0, 1);
        x.steal(0, 1);
        due.is("one of the first", 10, x.missing(0, 1));
        x.steal(0, 9);
        due.is("all of the first", 10, x.missing(0, 1));
        x.steal(0, 1);
        due.is("one of the second", 20, x.missing(0, 1));
        x.measure(0, 1);
        due.is("it is measured again", 1 + 10, x.missing(0, 1));
        due.is("found", 1, x.missing(0, 0));
    }
}
