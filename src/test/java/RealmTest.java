/** Promise 1: a new object; 5: town; 6: road; 7: coin; 8: harvest; 17: look; 19: count. */
public final class RealmTest {
    private static final int NONE = EvenGranary.NONE;

    public static void main(String[] args) {
        Due due = new Due("RealmTest");
        newObject(due);
        towns(due);
        roads(due);
        coin(due);
        harvest(due);
        price(due);
        looks(due);
        counts(due);
        due.end();
    }

    private static void newObject(Due due) {
        EvenGranary x = new EvenGranary();
        for (int what = 0; what <= 6; what++) {
            due.is("new object, count " + what, 0, x.count(what));
        }
        due.is("no town", NONE, x.look(0, 0));
        due.is("no road", NONE, x.count(10));
        due.is("foretold of an empty realm", 0, x.foretold(24));
        due.is("step of an empty realm", 24, x.step(24));
        EvenGranary y = new EvenGranary();
        x.town(1, 1, 1);
        due.is("objects share nothing", 0, y.count(1));
    }

    private static void towns(Due due) {
        EvenGranary x = new EvenGranary();
        int[][] wrong = {{0, 0, 0}, {-1, 0, 0}, {1001, 0, 0}, {1, -1, 0}, {1, 100001, 0}, {1, 0, -1}, {1, 0, 50001},
                {Integer.MAX_VALUE, 0, 0}, {1, Integer.MIN_VALUE, 0}, {1, 0, Integer.MAX_VALUE}};
        for (int[] w : wrong) {
            due.is("town(" + w[0] + ", " + w[1] + ", " + w[2] + ")", NONE, x.town(w[0], w[1], w[2]));
        }
        due.is("none of these is there", 0, x.count(1));
        due.is("least town", 0, x.town(1, 0, 0));
        due.is("greatest town", 1, x.town(1000, 100000, 50000));
        due.is("eats", 1000, x.look(1, 0));
        due.is("market", 100000, x.look(1, 1));
        due.is("room", 50000, x.look(1, 2));
        for (int t = 2; t < 8; t++) {
            due.is("town " + t, t, x.town(t, 10 * t, 100 * t));
        }
        due.is("a ninth", NONE, x.town(1, 1, 1));
        due.is("towns", 8, x.count(1));
        due.is("eats of 7", 7, x.look(7, 0));
        due.is("market of 7", 70, x.look(7, 1));
        due.is("room of 7", 700, x.look(7, 2));
    }

    private static void roads(Due due) {
        EvenGranary x = new EvenGranary();
        due.is("no towns", NONE, x.road(0, 1, 1, 1));
        x.town(1, 0, 0);
        x.town(1, 0, 0);
        int[][] wrong = {{0, 0, 1, 1}, {1, 1, 1, 1}, {0, 2, 1, 1}, {2, 0, 1, 1}, {-1, 0, 1, 1}, {0, -1, 1, 1},
                {0, 1, 0, 1}, {0, 1, 7, 1}, {0, 1, 1, 0}, {0, 1, 1, 10001}, {0, 1, -1, 1}, {0, 1, 1, -1},
                {Integer.MIN_VALUE, 1, 1, 1}, {0, Integer.MAX_VALUE, 1, 1}};
        for (int[] w : wrong) {
            due.is("road(" + w[0] + ", " + w[1] + ", " + w[2] + ", " + w[3] + ")", NONE, x.road(w[0], w[1], w[2], w[3]));
        }
        due.is("none of these is there", 0, x.count(2));
        for (int r = 0; r < 12; r++) {
            due.is("road " + r, r, x.road(r % 2, 1 - r % 2, r % 6 + 1, r == 0 ? 10000 : 1));
        }
        due.is("a thirteenth", NONE, x.road(0, 1, 1, 1));
        due.is("roads", 12, x.count(2));
    }

    private static void coin(Due due) {
        EvenGranary x = new EvenGranary();
        due.is("coin(5)", true, x.coin(5));
        due.is("coin is 5", 5, x.count(3));
        due.is("coin(-1)", false, x.coin(-1));
        due.is("coin(1000000001)", false, x.coin(1000000001L));
        due.is("coin of the least long", false, x.coin(Long.MIN_VALUE));
        due.is("coin of the greatest long", false, x.coin(Long.MAX_VALUE));
        due.is("coin of 2^32", false, x.coin(1L << 32));
        due.is("coin stays", 5, x.count(3));
        due.is("greatest coin", true, x.coin(1000000000L));
        due.is("it is told", 1000000000L, x.count(3));
        due.is("no coin", true, x.coin(0));
        due.is("it is told", 0, x.count(3));
    }

    private static void harvest(Due due) {
        EvenGranary x = new EvenGranary();
        due.is("no town", false, x.harvest(0, 1));
        x.town(10, 0, 0);
        x.town(10, 0, 0);
        due.is("town -1", false, x.harvest(-1, 1));
        due.is("town 2", false, x.harvest(2, 1));
        due.is("less than nothing", false, x.harvest(0, -1));
        due.is("too much", false, x.harvest(0, 100001));
        due.is("first told", true, x.harvest(0, 100000));
        due.is("told in its place", true, x.harvest(0, 35));
        due.is("a wrong one changes nothing", false, x.harvest(0, 100001));
        due.is("it is not there yet", 0, x.look(0, 1));
        x.step(1);
        due.is("market after the harvest", 25, x.look(0, 1));
        due.is("the other town has none", 0, x.look(1, 1));
        x.step(1);
        due.is("it comes once", 15, x.look(0, 1));
        due.is("most", true, x.harvest(1, 100000));
        due.is("nothing", true, x.harvest(0, 0));
        x.step(2);
        due.is("market of 0", 0, x.look(0, 1));
        due.is("market of 1", 99980, x.look(1, 1));
    }

    private static void price(Due due) {
        EvenGranary x = new EvenGranary();
        x.town(1, 0, 0);
        x.town(1000, 100000, 0);
        x.town(1, 999, 0);
        x.town(1, 1000, 0);
        x.town(7, 13, 0);
        int[] want = {1000, 9, 1, 0, 350};
        for (int t = 0; t < want.length; t++) {
            due.is("price of " + t, want[t], x.look(t, 3));
        }
    }

    private static void looks(Due due) {
        EvenGranary x = new EvenGranary();
        for (int what = 0; what <= 12; what++) {
            due.is("no town, look " + what, NONE, x.look(0, what));
        }
        x.town(3, 27, 9);
        long[] want = {3, 27, 9, 100, 0, 0, 0, 0, 0, 0, 0, 0, 0};
        for (int what = 0; what < want.length; what++) {
            due.is("look(0, " + what + ")", want[what], x.look(0, what));
        }
        for (int what : new int[] {-1, 13, 14, 256, Integer.MIN_VALUE, Integer.MAX_VALUE}) {
            due.is("look(0, " + what + ")", NONE, x.look(0, what));
        }
        for (int t : new int[] {-1, 1, 8, Integer.MIN_VALUE, Integer.MAX_VALUE}) {
            due.is("look(" + t + ", 0)", NONE, x.look(t, 0));
        }
    }

    private static void counts(Due due) {
        EvenGranary x = new EvenGranary();
        x.town(10, 0, 0);
        x.town(20, 5, 0);
        x.road(0, 1, 1, 1);
        x.step(3);
        due.is("month", 3, x.count(0));
        due.is("towns", 2, x.count(1));
        due.is("roads", 1, x.count(2));
        due.is("hunger of all", 3 * 10 + 15 + 20 + 20, x.count(6));
        due.is("hunger of 0", 30, x.look(0, 7));
        due.is("hunger of 1", 55, x.look(1, 7));
        due.is("road 0", 0, x.count(10));
        for (int what : new int[] {-1, 7, 8, 9, 11, 22, Integer.MIN_VALUE, Integer.MIN_VALUE + 9, Integer.MAX_VALUE}) {
            due.is("count(" + what + ")", NONE, x.count(what));
        }
    }
}
