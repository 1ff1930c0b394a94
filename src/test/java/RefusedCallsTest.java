import java.util.LinkedHashMap;
import java.util.Map;
import java.util.function.Consumer;
import java.util.function.Supplier;
import java.util.function.ToLongFunction;

/**
 * 'A call that is refused (NONE, false) changes nothing but the tape, where it is told.': after every call that is
 * refused a realm is as one is that never had it, and goes on like it.
 */
public final class RefusedCallsTest {
    private static final int NONE = EvenGranary.NONE;
    private static final int MIN = Integer.MIN_VALUE;
    private static final int MAX = Integer.MAX_VALUE;

    /** The calls, each with what it must answer; a boolean counts 1 or 0. */
    private final Map<String, ToLongFunction<EvenGranary>> calls = new LinkedHashMap<>();
    private final Due due;

    private RefusedCallsTest(Due due) {
        this.due = due;
        due.of("A call that is refused (NONE, false) changes nothing but the tape, where it is told.");
    }

    public static void main(String[] args) {
        Due due = new Due("RefusedCallsTest");
        RefusedCallsTest inBusy = new RefusedCallsTest(due);
        inBusy.listFounding();
        inBusy.listMoving();
        inBusy.listAsking();
        inBusy.compare(RefusedCallsTest::busy, RefusedCallsTest::goOn);
        RefusedCallsTest inFull = new RefusedCallsTest(due);
        inFull.listOfFull();
        inFull.compare(RefusedCallsTest::full, x -> x.step(1));
        faultChangesTheTapeAlone(due);
        due.end();
    }

    private void none(String name, ToLongFunction<EvenGranary> call) {
        calls.put(name, call);
    }

    private static long bit(boolean taken) {
        return taken ? 1 : NONE;
    }

    /** Each realm is looked at before or behind what goes on, for both would be more calls than an object is for. */
    private void compare(Supplier<EvenGranary> realm, Consumer<EvenGranary> goOn) {
        EvenGranary same = realm.get();
        String before = Realms.state(same);
        same = realm.get();
        goOn.accept(same);
        String behind = Realms.state(same);
        for (Map.Entry<String, ToLongFunction<EvenGranary>> call : calls.entrySet()) {
            EvenGranary x = realm.get();
            due.is(call.getKey(), NONE, call.getValue().applyAsLong(x));
            due.is("the realm behind " + call.getKey() + " is as before", true, before.equals(Realms.state(x)));
            x = realm.get();
            call.getValue().applyAsLong(x);
            goOn.accept(x);
            due.is("the realm goes on behind " + call.getKey(), true, behind.equals(Realms.state(x)));
        }
    }

    /** A realm with something of all there is: thefts, loans, carts, a harvest told and an edict on the tape. */
    private static EvenGranary busy() {
        EvenGranary x = busyWithoutTape();
        Due.feed(x, "b300;n7;s350;m9;a2;p30;o2;x");
        return x;
    }

    private static EvenGranary busyWithoutTape() {
        EvenGranary x = Realms.lotsAndRoad(5, 10, 3);
        x.town(20, 90, 30);
        x.road(2, 1, 1, 8);
        x.coin(4000);
        x.step(1);
        x.steal(0, 14);
        x.measure(0, 1);
        x.measure(0, 3);
        x.loan(0, 3);
        x.move(0, 0, 6);
        x.steal(0, 2);
        x.harvest(2, 55);
        return x;
    }

    /** Lets the tape, the harvest and what is true of each lot come to light. */
    private static void goOn(EvenGranary x) {
        x.edict(25);
        x.step(1);
        x.measure(0, 1);
        x.step(6);
    }

    private void listFounding() {
        none("edict(41)", x -> x.edict(41));
        none("edict(-1)", x -> x.edict(-1));
        none("edict(MIN)", x -> x.edict(MIN));
        none("edict(MAX)", x -> x.edict(MAX));
        none("rule(c)", x -> x.rule('c'));
        none("rule(-1)", x -> x.rule(-1));
        none("town(0, 0, 0)", x -> x.town(0, 0, 0));
        none("town(1001, 0, 0)", x -> x.town(1001, 0, 0));
        none("town(1, -1, 0)", x -> x.town(1, -1, 0));
        none("town(1, 100001, 0)", x -> x.town(1, 100001, 0));
        none("town(1, 0, -1)", x -> x.town(1, 0, -1));
        none("town(1, 0, 50001)", x -> x.town(1, 0, 50001));
        none("road(0, 0, 1, 1)", x -> x.road(0, 0, 1, 1));
        none("road(0, 3, 1, 1)", x -> x.road(0, 3, 1, 1));
        none("road(-1, 0, 1, 1)", x -> x.road(-1, 0, 1, 1));
        none("road(0, 1, 0, 1)", x -> x.road(0, 1, 0, 1));
        none("road(0, 1, 7, 1)", x -> x.road(0, 1, 7, 1));
        none("road(0, 1, 1, 0)", x -> x.road(0, 1, 1, 0));
        none("road(0, 1, 1, 10001)", x -> x.road(0, 1, 1, 10001));
        none("coin(-1)", x -> bit(x.coin(-1)));
        none("coin(1000000001)", x -> bit(x.coin(1000000001)));
        none("harvest(2, -1)", x -> bit(x.harvest(2, -1)));
        none("harvest(2, 100001)", x -> bit(x.harvest(2, 100001)));
        none("harvest(3, 1)", x -> bit(x.harvest(3, 1)));
        none("harvest(-1, 1)", x -> bit(x.harvest(-1, 1)));
        none("step(0)", x -> x.step(0));
        none("step(-1)", x -> x.step(-1));
        none("step(25)", x -> x.step(25));
        none("step(MAX)", x -> x.step(MAX));
    }

    private void listMoving() {
        none("move(0, 0, 0)", x -> bit(x.move(0, 0, 0)));
        none("move(0, 0, -1)", x -> bit(x.move(0, 0, -1)));
        none("move(0, 0, 36), one more than is true", x -> bit(x.move(0, 0, 36)));
        none("move(1, 1, 9), by too few carts", x -> bit(x.move(1, 1, 9)));
        none("move(0, 1, 1), where it does not begin", x -> bit(x.move(0, 1, 1)));
        none("move(0, 2, 1)", x -> bit(x.move(0, 2, 1)));
        none("move(0, -1, 1)", x -> bit(x.move(0, -1, 1)));
        none("move(3, 0, 1)", x -> bit(x.move(3, 0, 1)));
        none("move(-1, 0, 1)", x -> bit(x.move(-1, 0, 1)));
        none("loan(0, 0)", x -> x.loan(0, 0));
        none("loan(0, -1)", x -> x.loan(0, -1));
        none("loan(0, 36)", x -> x.loan(0, 36));
        none("loan(3, 1)", x -> x.loan(3, 1));
        none("loan(-1, 1)", x -> x.loan(-1, 1));
        none("steal(0, 0)", x -> bit(x.steal(0, 0)));
        none("steal(0, -1)", x -> bit(x.steal(0, -1)));
        none("steal(0, 36)", x -> bit(x.steal(0, 36)));
        none("steal(3, 1)", x -> bit(x.steal(3, 1)));
        none("steal(-1, 1)", x -> bit(x.steal(-1, 1)));
        none("measure(0, 4)", x -> x.measure(0, 4));
        none("measure(0, -1)", x -> x.measure(0, -1));
        none("measure(3, 0)", x -> x.measure(3, 0));
        none("measure(-1, 0)", x -> x.measure(-1, 0));
    }

    private void listAsking() {
        none("missing(0, 2)", x -> x.missing(0, 2));
        none("missing(0, -1)", x -> x.missing(0, -1));
        none("missing(3, 0)", x -> x.missing(3, 0));
        none("foretold(0)", x -> x.foretold(0));
        none("foretold(25)", x -> x.foretold(25));
        none("best(0, 0)", x -> x.best(0, 0));
        none("best(0, 25)", x -> x.best(0, 25));
        none("best(3, 1)", x -> x.best(3, 1));
        none("best(-1, 1)", x -> x.best(-1, 1));
        none("look(0, 13)", x -> x.look(0, 13));
        none("look(0, -1)", x -> x.look(0, -1));
        none("look(3, 0)", x -> x.look(3, 0));
        none("lot(0, 4, 0)", x -> x.lot(0, 4, 0));
        none("lot(0, -1, 0)", x -> x.lot(0, -1, 0));
        none("lot(0, 0, 3)", x -> x.lot(0, 0, 3));
        none("lot(3, 0, 0)", x -> x.lot(3, 0, 0));
        none("count(7)", x -> x.count(7));
        none("count(-1)", x -> x.count(-1));
        none("count(12)", x -> x.count(12));
    }

    /** A realm that is full: eight towns, twelve roads, forty lots, sixty on the way, month 1999 and sixty bytes. */
    private static EvenGranary full() {
        EvenGranary x = Realms.with("n90;p0;o0");
        for (int t = 0; t < 8; t++) {
            x.town(1, t == 0 ? 50000 : 0, t == 0 ? 40000 : 0);
        }
        for (int r = 0; r < 12; r++) {
            x.road(0, 1 + r % 7, 6, r == 0 ? 1 : 100);
        }
        Realms.months(x, 1999);
        for (int i = 0; i < 60; i++) {
            x.move(0, i == 0 ? 0 : 1, 1);
        }
        for (int i = 0; i < 3; i++) {
            x.feed(0x62313b62, 0x323b6233, 0x3b62343b, 0x62353b62, 0x363b623b);
        }
        return x;
    }

    private void listOfFull() {
        none("feed to 80", x -> x.feed(0, 0, 0, 0, 0));
        none("edict(61)", x -> x.edict(61));
        none("a ninth town", x -> x.town(1, 0, 0));
        none("a thirteenth road", x -> x.road(0, 1, 1, 1));
        none("step(2), to 2001", x -> x.step(2));
        none("step(24), to 2023", x -> x.step(24));
        none("move with 60 on the way", x -> bit(x.move(0, 2, 1)));
        none("best with 60 on the way", x -> x.best(0, 24));
        none("move by carts that are taken", x -> bit(x.move(0, 0, 1)));
        none("measure(0, 40)", x -> x.measure(0, 40));
        none("lot(0, 40, 0)", x -> x.lot(0, 40, 0));
        none("count(22)", x -> x.count(22));
        none("harvest(8, 1)", x -> bit(x.harvest(8, 1)));
        none("look(8, 0)", x -> x.look(8, 0));
    }

    private static void faultChangesTheTapeAlone(Due due) {
        due.of("a FAULT: 100 times its number and its place (it stays)");
        String want = Realms.state(busyWithoutTape());
        String[] texts = {"", "b3;n4;x", "b3;n4;s", "b3;n4;s12345", "b3;n4;a0", "b3;n4 "};
        int[] faults = {100, 106, 207, 311, 407, 505};
        for (int i = 0; i < texts.length; i++) {
            EvenGranary x = busyWithoutTape();
            due.is("edict \"" + texts[i] + "\"", faults[i], Due.edict(x, texts[i]));
            due.is("all is as before, and the tape is empty", true, want.equals(Realms.state(x)));
        }
    }
}
