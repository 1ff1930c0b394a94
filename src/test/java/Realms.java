/** Realms to begin a test with, and all that can be seen of one. */
final class Realms {
    private Realms() {
    }

    static EvenGranary with(String edict) {
        EvenGranary x = new EvenGranary();
        Due.edict(x, edict);
        return x;
    }

    /** Town 0, whose store has lots of one size, of the months from 1 on, that cost nothing and do not spoil. */
    static EvenGranary lots(int count, int each) {
        EvenGranary x = with("n" + each + ";p0;o0");
        x.town(1, 90000, 40000);
        months(x, count);
        return x;
    }

    /** As above, and town 1 that has and eats nothing to speak of, by a road of a way. */
    static EvenGranary lotsAndRoad(int count, int each, int way) {
        EvenGranary x = lots(count, each);
        x.town(1, 50000, 40000);
        x.road(0, 1, way, 10000);
        return x;
    }

    /** Month 1, by an edict that comes next: town 0 with a market and one lot of so many held, and no coin. */
    static EvenGranary held(String edict, int eats, int market, int room, int held) {
        EvenGranary x = with("b9999;n" + held + ";p0;o0");
        x.town(eats, market + held + eats, room);
        x.coin(1000000000);
        x.step(1);
        x.coin(0);
        Due.edict(x, edict);
        return x;
    }

    static void months(EvenGranary x, int n) {
        for (int left = n; left > 0; left -= 24) {
            x.step(Math.min(left, 24));
        }
    }

    /** All that the calls tell of a realm, but for the bytes of its tape. */
    static String state(EvenGranary x) {
        StringBuilder all = new StringBuilder();
        long towns = x.count(1);
        long roads = x.count(2);
        for (int what = 0; what < 10 + roads; what++) {
            all.append(x.count(what)).append(' ');
        }
        for (char letter : "bnsmlapo".toCharArray()) {
            all.append(letter).append(x.rule(letter)).append(' ');
        }
        for (int t = 0; t < towns; t++) {
            town(all.append("\ntown ").append(t).append(": "), x, t);
        }
        return all.append("\nforetold ").append(x.foretold(24)).toString();
    }

    private static void town(StringBuilder all, EvenGranary x, int t) {
        for (int what = 0; what < 13; what++) {
            all.append(x.look(t, what)).append(' ');
        }
        long lots = x.look(t, 4);
        for (int i = 0; i < lots; i++) {
            all.append('[').append(x.lot(t, i, 0)).append(' ').append(x.lot(t, i, 1)).append(' ').append(x.lot(t, i, 2)).append(']');
        }
        all.append(' ').append(x.missing(t, 0)).append(' ').append(x.missing(t, 1));
    }
}
