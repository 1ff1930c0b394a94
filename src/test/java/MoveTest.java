/** Promise 10: move; promise 11: loan; promise 19: count 4 and 10 and more. */
public final class MoveTest {
    private static final int NONE = EvenGranary.NONE;

    public static void main(String[] args) {
        Due due = new Due("MoveTest");
        wrongMoves(due);
        cartsBothWaysTogether(due);
        everyWay(due);
        storeThenMarket(due);
        arrivalsComeBeforeBuying(due);
        sixtyOnTheWay(due);
        takesTheOldest(due);
        loans(due);
        loanTakesTheOldest(due);
        due.end();
    }

    /** Town 0 with 100 measures in its store, an empty town 1 of a room, and an empty town 2. */
    private static EvenGranary realm(int room) {
        EvenGranary x = new EvenGranary();
        Due.edict(x, "n100;p0;o0;s9999");
        x.town(1, 9000, 100);
        x.town(1, 0, room);
        x.town(1, 0, 0);
        x.step(1);
        return x;
    }

    private static void wrongMoves(Due due) {
        EvenGranary x = realm(1000);
        due.is("no road", false, x.move(0, 0, 1));
        x.road(0, 1, 1, 60);
        x.road(1, 2, 1, 60);
        x.road(0, 2, 1, 200);
        due.is("nothing", false, x.move(0, 0, 0));
        due.is("less than nothing", false, x.move(0, 0, -5));
        due.is("least int", false, x.move(0, 0, Integer.MIN_VALUE));
        due.is("greatest int", false, x.move(0, 0, Integer.MAX_VALUE));
        due.is("no such town", false, x.move(3, 0, 1));
        due.is("town -1", false, x.move(-1, 0, 1));
        due.is("no such road", false, x.move(0, 3, 1));
        due.is("road -1", false, x.move(0, -1, 1));
        due.is("it does not begin there", false, x.move(0, 1, 1));
        due.is("nothing is true there", false, x.move(1, 0, 1));
        due.is("not so many carts", false, x.move(0, 0, 61));
        due.is("not so many are true", false, x.move(0, 2, 101));
        due.is("none is on the way", 0, x.count(4));
        due.is("none was taken", 100, x.look(0, 5));
        due.is("no carts", 0, x.count(10) + x.count(11) + x.count(12));
        due.is("all carts", true, x.move(0, 0, 60));
        due.is("one more", false, x.move(0, 0, 1));
        due.is("another road", true, x.move(0, 2, 40));
        due.is("nothing is left", false, x.move(0, 2, 1));
        due.is("on the way", 100, x.count(4));
        due.is("road 0 took", 60, x.count(10));
        due.is("road 2 took", 40, x.count(12));
        due.is("no lots", 0, x.look(0, 4));
        x.step(1);
        due.is("road 0 took since", 0, x.count(10));
        due.is("road 2 took since", 0, x.count(12));
        due.is("carts again", true, x.move(0, 0, 60));
    }

    private static void cartsBothWaysTogether(Due due) {
        EvenGranary x = realm(1000);
        x.road(0, 1, 1, 30);
        x.move(0, 0, 30);
        x.step(1);
        due.is("they came", 30, x.look(1, 5));
        due.is("there", true, x.move(0, 0, 10));
        due.is("and back", true, x.move(1, 0, 15));
        due.is("took", 25, x.count(10));
        due.is("six more", false, x.move(1, 0, 6));
        due.is("five more", true, x.move(1, 0, 5));
        due.is("one more there", false, x.move(0, 0, 1));
        x.step(1);
        due.is("town 1", 30 - 20 + 10, x.look(1, 5));
        due.is("town 0", 100, x.look(0, 5));
        due.is("the room was filled by carts", 130, x.look(0, 10));
    }

    private static void everyWay(Due due) {
        for (int way = 1; way <= 6; way++) {
            EvenGranary x = realm(1000);
            x.road(1, 0, way, 10000);
            x.move(0, 0, 50);
            for (int month = 1; month < way; month++) {
                x.step(1);
                due.is("way " + way + ", on the way", 50, x.count(4));
                due.is("way " + way + ", not there", 0, x.look(1, 5));
            }
            x.step(1);
            due.is("way " + way + ", none is on the way", 0, x.count(4));
            due.is("way " + way + ", there", 50, x.look(1, 5));
            due.is("way " + way + ", its month", 1 + way, x.lot(1, 0, 0));
        }
    }

    private static void storeThenMarket(Due due) {
        EvenGranary x = realm(70);
        x.road(0, 1, 2, 1000);
        x.road(0, 1, 1, 1000);
        x.move(0, 0, 50);
        x.step(1);
        x.move(0, 1, 49);
        x.step(1);
        due.is("store", 70, x.look(1, 5));
        due.is("market: the rest but for what is eaten", 28, x.look(1, 1));
        due.is("one lot", 1, x.look(1, 4));
        due.is("its book", 70, x.lot(1, 0, 1));
        due.is("its month", 3, x.lot(1, 0, 0));
        x.steal(1, 20);
        x.move(0, 1, 30);
        x.step(1);
        due.is("room is what is not true", 70, x.look(1, 5));
        due.is("book", 90, x.look(1, 6));
        due.is("market", 28 + 10 - 1, x.look(1, 1));
        x = realm(0);
        x.road(0, 1, 1, 1000);
        x.move(0, 0, 100);
        x.step(1);
        due.is("no lot where there is no room", 0, x.look(1, 4));
        due.is("all to the market", 99, x.look(1, 1));
    }

    private static void arrivalsComeBeforeBuying(Due due) {
        EvenGranary x = new EvenGranary();
        Due.edict(x, "n10;p0;o0");
        x.town(1, 5000, 100);
        x.town(1, 5000, 25);
        x.road(0, 1, 1, 100);
        x.step(1);
        x.move(0, 0, 10);
        x.step(1);
        due.is("both in one lot", 15, x.lot(1, 1, 1));
        due.is("lots", 2, x.look(1, 4));
        due.is("bought only what had room behind the carts", 15, x.look(1, 10));
        due.is("true", 25, x.look(1, 5));
    }

    private static void sixtyOnTheWay(Due due) {
        EvenGranary x = realm(1000);
        x.road(0, 1, 2, 10000);
        x.road(0, 2, 1, 10000);
        for (int i = 0; i < 30; i++) {
            due.is("move " + i, true, x.move(0, 0, 1));
            due.is("move " + i + " by the other road", true, x.move(0, 1, 1));
        }
        due.is("a 61st", false, x.move(0, 0, 1));
        due.is("on the way", 60, x.count(4));
        due.is("true", 40, x.look(0, 5));
        x.step(1);
        due.is("half of them came", 30, x.count(4));
        due.is("town 2", 29, x.look(2, 1));
        due.is("one more", true, x.move(0, 0, 5));
        x.step(1);
        due.is("the others came", 5, x.count(4));
        due.is("town 1", 30, x.look(1, 5));
    }

    private static void takesTheOldest(Due due) {
        EvenGranary x = new EvenGranary();
        Due.edict(x, "n10;p0;o0");
        x.town(1, 5000, 1000);
        x.town(1, 0, 1000);
        x.road(0, 1, 6, 1000);
        x.step(3);
        x.steal(0, 4);
        x.move(0, 0, 6);
        due.is("the first lot is gone", 2, x.look(0, 4));
        due.is("found", 4, x.missing(0, 0));
        due.is("month of the next", 2, x.lot(0, 0, 0));
        x.measure(0, 0);
        x.move(0, 0, 3);
        due.is("book of the next", 7, x.lot(0, 0, 1));
        due.is("it is measured still", 1, x.lot(0, 0, 2));
        x.move(0, 0, 17);
        due.is("no lots", 0, x.look(0, 4));
        due.is("book", 0, x.look(0, 6));
    }

    private static void loans(Due due) {
        EvenGranary x = realm(1000);
        due.is("no such town", NONE, x.loan(3, 1));
        due.is("town -1", NONE, x.loan(-1, 1));
        due.is("nothing", NONE, x.loan(0, 0));
        due.is("less than nothing", NONE, x.loan(0, -1));
        due.is("not so many are true", NONE, x.loan(0, 101));
        due.is("greatest int", NONE, x.loan(0, Integer.MAX_VALUE));
        due.is("an empty store", NONE, x.loan(1, 1));
        due.is("owes nothing", 0, x.look(0, 9));
        long market = x.look(0, 1);
        due.is("one", 2, x.loan(0, 1));
        due.is("ten", 13, x.loan(0, 10));
        due.is("owes", 13, x.look(0, 9));
        due.is("market", market + 11, x.look(0, 1));
        due.is("true", 89, x.look(0, 5));
        Due.edict(x, "l100;p0;o0");
        due.is("by the edict of the next month", 20, x.loan(0, 7));
        Due.edict(x, "l9999;p0;o0");
        due.is("by the highest", 20 + 8200, x.loan(0, 82));
        due.is("nothing is left", NONE, x.loan(0, 1));
    }

    private static void loanTakesTheOldest(Due due) {
        EvenGranary x = new EvenGranary();
        Due.edict(x, "n10;p0;o0");
        x.town(1, 5000, 1000);
        x.step(3);
        x.steal(0, 14);
        due.is("loan", 6, x.loan(0, 5));
        due.is("lots", 2, x.look(0, 4));
        due.is("found: the empty lot alone", 10, x.missing(0, 0));
        due.is("book of the next", 5, x.lot(0, 0, 1));
        due.is("loan", 8, x.loan(0, 1));
        due.is("lots", 1, x.look(0, 4));
        due.is("found", 14, x.missing(0, 0));
        due.is("true", 10, x.look(0, 5));
    }
}
