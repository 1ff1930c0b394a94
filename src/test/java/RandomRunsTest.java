import java.util.Random;

/** All promises: runs of random calls (of fixed seeds), each answered alike by the class and by PlainGranary. */
public final class RandomRunsTest {
    private static final int RUNS = 400;
    private static final int CALLS = 500;

    /** What a run does more of than others, so that the far edges come up: months to the last, carts to sixty, lots to forty. */
    private enum Bent { NONE, MONTHS, CARTS, LOTS }

    private static final Bent[] BENTS = Bent.values();

    private final Due due;
    private final Random random;
    private final EvenGranary x = new EvenGranary();
    private final PlainGranary y = new PlainGranary();
    private final String run;
    private final Bent bent;
    private final int[] beginnings = new int[12];
    private int towns;
    private int roads;

    private RandomRunsTest(Due due, int seed) {
        this.due = due;
        random = new Random(seed);
        run = "run " + seed + ": ";
        bent = BENTS[seed % BENTS.length];
    }

    public static void main(String[] args) {
        Due due = new Due("RandomRunsTest");
        for (int seed = 1; seed <= RUNS; seed++) {
            new RandomRunsTest(due, seed).play();
        }
        due.end();
    }

    private void play() {
        int mostTowns = 1 + random.nextInt(8);
        for (int t = 0; t < mostTowns; t++) {
            town();
        }
        for (int r = random.nextInt(13); r > 0; r--) {
            road();
        }
        if (random.nextInt(4) > 0) {
            coin(random.nextInt(2000000));
        }
        for (int call = 0; call < CALLS; call++) {
            one(kind());
            if (call % 25 == 0) {
                compareAll();
            }
        }
        compareAll();
    }

    /** The number of a kind of call: all are alike likely, but for what the run is bent on. */
    private int kind() {
        int kind = random.nextInt(40);
        boolean isStep = kind >= 9 && kind <= 16;
        boolean isTaking = kind >= 17 && kind <= 28;
        if (bent == Bent.CARTS && isStep && random.nextInt(12) > 0) {
            return 17;
        }
        return bent == Bent.LOTS && isTaking && random.nextInt(8) > 0 ? 9 : kind;
    }

    private int months() {
        if (random.nextInt(6) == 0) {
            return some(25);
        }
        return bent == Bent.MONTHS ? 19 + random.nextInt(6) : 1;
    }

    private int lotToMeasure(int t) {
        int lots = (int) Math.max(1, y.look(t, 4));
        return bent == Bent.LOTS && random.nextBoolean() ? lots - 1 : some(lots);
    }

    /** Mostly a number from 0 to below most; now and then one that is wrong or at an edge. */
    private int some(int most) {
        switch (random.nextInt(30)) {
            case 0: return -1;
            case 1: return most;
            case 2: return random.nextInt();
            case 3: return random.nextBoolean() ? Integer.MIN_VALUE : Integer.MAX_VALUE;
            default: return random.nextInt(Math.max(1, most));
        }
    }

    private int amount(int t) {
        int real = (int) Math.max(0, y.look(t, 5));
        switch (random.nextInt(6)) {
            case 0: return real;
            case 1: return some(real + 2);
            default: return 1 + random.nextInt(1 + real / 3);
        }
    }

    private void one(int kind) {
        int t = some(towns);
        int n = amount(t);
        switch (kind) {
            case 0: case 1: edict(); break;
            case 2: town(); break;
            case 3: road(); break;
            case 4: coin(random.nextInt(3) == 0 ? random.nextLong() : random.nextInt(1000000)); break;
            case 5: case 6: case 7: case 8:
                int sheaves = random.nextInt(8) == 0 ? some(100001) : random.nextInt(3000);
                due.is(run + "harvest(" + t + ", " + sheaves + ")", y.harvest(t, sheaves), x.harvest(t, sheaves));
                break;
            case 9: case 10: case 11: case 12: case 13: case 14: case 15: case 16:
                int months = months();
                due.is(run + "step(" + months + ")", y.step(months), x.step(months));
                break;
            case 17: case 18: case 19: case 20: case 21: case 22: case 23:
                move(t, n);
                break;
            case 24: case 25:
                due.is(run + "loan(" + t + ", " + n + ")", y.loan(t, n), x.loan(t, n));
                break;
            case 26: case 27: case 28:
                due.is(run + "steal(" + t + ", " + n + ")", y.steal(t, n), x.steal(t, n));
                break;
            case 29: case 30: case 31:
                int i = lotToMeasure(t);
                due.is(run + "measure(" + t + ", " + i + ")", y.measure(t, i), x.measure(t, i));
                break;
            default: ask(kind, t); break;
        }
    }

    private void ask(int kind, int t) {
        int n = some(25);
        int what = some(24);
        switch (kind) {
            case 32: due.is(run + "foretold(" + n + ")", y.foretold(n), x.foretold(n)); break;
            case 33: case 34: due.is(run + "best(" + t + ", " + n + ")", y.best(t, n), x.best(t, n)); break;
            case 35: due.is(run + "look(" + t + ", " + what + ")", y.look(t, what), x.look(t, what)); break;
            case 36: due.is(run + "count(" + what + ")", y.count(what), x.count(what)); break;
            case 37:
                int i = some(42);
                int of = some(4);
                due.is(run + "lot(" + t + ", " + i + ", " + of + ")", y.lot(t, i, of), x.lot(t, i, of));
                break;
            case 38:
                int end = some(3);
                due.is(run + "missing(" + t + ", " + end + ")", y.missing(t, end), x.missing(t, end));
                break;
            default:
                int letter = random.nextInt(5) == 0 ? some(256) : "bnsmlapo".charAt(random.nextInt(8));
                due.is(run + "rule(" + letter + ")", y.rule(letter), x.rule(letter));
                break;
        }
    }

    private void town() {
        int eats = random.nextInt(10) == 0 ? some(1001) : 1 + random.nextInt(random.nextBoolean() ? 5 : 200);
        int market = random.nextInt(10) == 0 ? some(100001) : random.nextInt(5000);
        int room = random.nextInt(10) == 0 ? some(50001) : random.nextInt(1500);
        int got = x.town(eats, market, room);
        due.is(run + "town(" + eats + ", " + market + ", " + room + ")", y.town(eats, market, room), got);
        towns = Math.max(towns, got + 1);
    }

    private void road() {
        int a = some(towns);
        int b = some(towns);
        int way = random.nextInt(10) == 0 ? some(8) : 1 + random.nextInt(6);
        int carts = random.nextInt(10) == 0 ? some(10001) : 1 + random.nextInt(300);
        int got = x.road(a, b, way, carts);
        due.is(run + "road(" + a + ", " + b + ", " + way + ", " + carts + ")", y.road(a, b, way, carts), got);
        roads = Math.max(roads, got + 1);
        if (got >= 0 && got < beginnings.length) {
            beginnings[got] = a;
        }
    }

    private void move(int t, int n) {
        int r = some(roads);
        boolean isFitting = bent == Bent.CARTS && r >= 0 && r < roads;
        int from = isFitting ? beginnings[r] : t;
        int measures = isFitting ? 1 + random.nextInt(2) : n;
        due.is(run + "move(" + from + ", " + r + ", " + measures + ")", y.move(from, r, measures), x.move(from, r, measures));
    }

    private void coin(long n) {
        due.is(run + "coin(" + n + ")", y.coin(n), x.coin(n));
    }

    private void edict() {
        String text = text();
        for (int from = 0; from < text.length() || from == 0; from += 20) {
            int[] w = new int[5];
            for (int i = 0; i < 20; i++) {
                w[i / 4] = w[i / 4] << 8 | (from + i < text.length() ? text.charAt(from + i) : random.nextInt(256));
            }
            due.is(run + "feed", y.feed(w), x.feed(w[0], w[1], w[2], w[3], w[4]));
        }
        int n = random.nextInt(12) == 0 ? some(61) : text.length();
        due.is(run + "edict(" + n + ") of " + text, y.edict(n), x.edict(n));
    }

    private String text() {
        StringBuilder text = new StringBuilder();
        int[] usual = {300, 60, 500, 100, 150, 6, bent == Bent.LOTS ? 2 : 40, 6};
        for (int clauses = random.nextInt(8); clauses >= 0; clauses--) {
            int which = random.nextInt(8);
            int number = (which == 4 ? 100 : which == 5 ? 1 : 0) + random.nextInt(usual[which]);
            text.append("bnsmlapo".charAt(which)).append(random.nextInt(60) == 0 ? random.nextInt(100000) : number);
            text.append(clauses == 0 ? "" : ";");
        }
        if (random.nextInt(10) == 0) {
            text.setCharAt(random.nextInt(text.length()), "; 0123456789:/bBz\u0000\u00ff".charAt(random.nextInt(19)));
        }
        return text.length() > 60 ? text.substring(0, 60) : text.toString();
    }

    private void compareAll() {
        for (int what = -1; what < 24; what++) {
            due.is(run + "count(" + what + ")", y.count(what), x.count(what));
        }
        for (int t = 0; t < 8; t++) {
            for (int what = -1; what < 14; what++) {
                due.is(run + "look(" + t + ", " + what + ")", y.look(t, what), x.look(t, what));
            }
            for (int i = 0; i < 41; i++) {
                for (int what = 0; what < 3; what++) {
                    due.is(run + "lot(" + t + ", " + i + ", " + what + ")", y.lot(t, i, what), x.lot(t, i, what));
                }
            }
            due.is(run + "missing(" + t + ", 0)", y.missing(t, 0), x.missing(t, 0));
            due.is(run + "missing(" + t + ", 1)", y.missing(t, 1), x.missing(t, 1));
        }
    }
}
