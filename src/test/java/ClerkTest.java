/** Promise 12: steal; 13: measure; 14: missing; 18: lot; 17: look 4, 5, 6 and 12. */
public final class ClerkTest {
    private static final int NONE = EvenGranary.NONE;

    public static void main(String[] args) {
        Due due = new Due("ClerkTest");
        wrongCalls(due);
        stealsFromTheOldest(due);
        measures(due);
        missing(due);
        due.end();
    }

    /** Three lots of ten, of the months 1 to 3. */
    private static EvenGranary threeLots() {
        EvenGranary x = new EvenGranary();
        Due.edict(x, "n10;p0;o0");
        x.town(1, 5000, 1000);
        x.town(1, 0, 1000);
        x.step(3);
        return x;
    }

    private static void wrongCalls(Due due) {
        EvenGranary x = threeLots();
        for (int t : new int[] {-1, 2, 8, Integer.MIN_VALUE, Integer.MAX_VALUE}) {
            due.is("steal of town " + t, false, x.steal(t, 1));
            due.is("measure of town " + t, NONE, x.measure(t, 0));
            due.is("missing of town " + t, NONE, x.missing(t, 0));
            due.is("lot of town " + t, NONE, x.lot(t, 0, 0));
        }
        for (int n : new int[] {0, -1, 31, Integer.MIN_VALUE, Integer.MAX_VALUE}) {
            due.is("steal(0, " + n + ")", false, x.steal(0, n));
        }
        due.is("an empty store", false, x.steal(1, 1));
        for (int i : new int[] {-1, 3, 40, Integer.MIN_VALUE, Integer.MAX_VALUE}) {
            due.is("measure(0, " + i + ")", NONE, x.measure(0, i));
            due.is("lot(0, " + i + ", 0)", NONE, x.lot(0, i, 0));
        }
        due.is("measure(1, 0)", NONE, x.measure(1, 0));
        for (int what : new int[] {-1, 2, 3, Integer.MIN_VALUE, Integer.MAX_VALUE}) {
            due.is("missing(0, " + what + ")", NONE, x.missing(0, what));
        }
        for (int what : new int[] {-1, 3, 4, Integer.MIN_VALUE, Integer.MAX_VALUE}) {
            due.is("lot(0, 0, " + what + ")", NONE, x.lot(0, 0, what));
        }
        due.is("true", 30, x.look(0, 5));
        due.is("stolen", 0, x.look(0, 12));
        due.is("missing", 30, x.missing(0, 1));
    }

    private static void stealsFromTheOldest(Due due) {
        EvenGranary x = threeLots();
        due.is("steal 15", true, x.steal(0, 15));
        due.is("true", 15, x.look(0, 5));
        due.is("book", 30, x.look(0, 6));
        due.is("lots", 3, x.look(0, 4));
        due.is("stolen", 15, x.look(0, 12));
        due.is("steal 16", false, x.steal(0, 16));
        for (int i = 0; i < 3; i++) {
            due.is("month of lot " + i, i + 1, x.lot(0, i, 0));
            due.is("book of lot " + i, 10, x.lot(0, i, 1));
        }
        due.is("measure lot 2", 0, x.measure(0, 2));
        due.is("measure lot 1", 5, x.measure(0, 1));
        due.is("measure lot 0", 10, x.measure(0, 0));
        due.is("lots", 2, x.look(0, 4));
        due.is("steal all", true, x.steal(0, 15));
        due.is("stolen", 30, x.look(0, 12));
        due.is("book", 15, x.look(0, 6));
        due.is("nothing is true", 0, x.look(0, 5));
        due.is("steal one more", false, x.steal(0, 1));
        due.is("other town", 0, x.look(1, 12));
    }

    private static void measures(Due due) {
        EvenGranary x = threeLots();
        x.steal(0, 15);
        due.is("lot 2", 0, x.measure(0, 2));
        due.is("lot 2 is measured", 1, x.lot(0, 2, 2));
        due.is("lot 1 is not", 0, x.lot(0, 1, 2));
        x.steal(0, 5);
        due.is("none was stolen of lot 2", 1, x.lot(0, 2, 2));
        x.steal(0, 1);
        due.is("one was", 0, x.lot(0, 2, 2));
        due.is("lot 2 again", 1, x.measure(0, 2));
        due.is("its book", 9, x.lot(0, 2, 1));
        due.is("it is measured", 1, x.lot(0, 2, 2));
        due.is("again", 0, x.measure(0, 2));
        due.is("lot 1", 10, x.measure(0, 1));
        due.is("it is gone", 2, x.look(0, 4));
        due.is("lot 1 is of month 3", 3, x.lot(0, 1, 0));
        due.is("lot 1 is measured", 1, x.lot(0, 1, 2));
        due.is("lot 0 is of month 1", 1, x.lot(0, 0, 0));
        due.is("loan", 10, x.loan(0, 9));
        due.is("both are gone", 0, x.look(0, 4));
        due.is("found", 11 + 10, x.missing(0, 0));
    }

    private static void missing(Due due) {
        EvenGranary x = threeLots();
        due.is("least", 0, x.missing(0, 0));
        due.is("greatest", 30, x.missing(0, 1));
        x.measure(0, 1);
        due.is("without a measured one", 20, x.missing(0, 1));
        x.steal(0, 12);
        due.is("least: a thief is not found at once", 0, x.missing(0, 0));
        due.is("greatest: he was at the measured one", 30, x.missing(0, 1));
        x.measure(0, 1);
        due.is("least", 2, x.missing(0, 0));
        due.is("greatest", 2 + 20, x.missing(0, 1));
        x.measure(0, 2);
        due.is("greatest", 2 + 10, x.missing(0, 1));
        x.measure(0, 0);
        due.is("least", 12, x.missing(0, 0));
        due.is("greatest", 12, x.missing(0, 1));
        x.step(1);
        due.is("greatest: with the new one", 22, x.missing(0, 1));
        due.is("other town, least", 0, x.missing(1, 0));
        due.is("other town, greatest", 0, x.missing(1, 1));
    }
}
