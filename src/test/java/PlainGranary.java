import java.util.ArrayList;
import java.util.List;

/**
 * The document told a second time, with lists and copies and no care for speed, as something to compare with.
 * It is written from the document alone and shares no code with the class.
 */
final class PlainGranary {
    static final class Lot {
        int month;
        long book;
        long real;
        boolean measured;

        Lot copy() {
            Lot c = new Lot();
            c.month = month;
            c.book = book;
            c.real = real;
            c.measured = measured;
            return c;
        }
    }

    static final class Town {
        long eats;
        long market;
        long room;
        long told;
        long owes;
        long found;
        long hunger;
        long spoilt;
        long bought;
        long sold;
        long stolen;
        List<Lot> lots = new ArrayList<>();

        Town copy() {
            Town c = new Town();
            c.eats = eats;
            c.market = market;
            c.room = room;
            c.owes = owes;
            for (Lot l : lots) {
                c.lots.add(l.copy());
            }
            return c;
        }

        long real() {
            return lots.stream().mapToLong(l -> l.real).sum();
        }

        long book() {
            return lots.stream().mapToLong(l -> l.book).sum();
        }

        long price() {
            return 1000 * eats / (market + eats);
        }

        void comes(long n, int month) {
            if (n == 0) {
                return;
            }
            Lot last = lots.isEmpty() ? null : lots.get(lots.size() - 1);
            if (last == null || last.month != month && lots.size() < 40) {
                last = new Lot();
                last.month = month;
                lots.add(last);
            }
            last.book += n;
            last.real += n;
            last.measured = false;
        }

        void isTaken(long n) {
            while (n > 0) {
                Lot oldest = lots.get(0);
                long part = Math.min(n, oldest.real);
                n -= part;
                oldest.real -= part;
                oldest.book -= part;
                if (oldest.real == 0) {
                    found += oldest.book;
                    lots.remove(0);
                }
            }
        }
    }

    record Road(int a, int b, int way, int carts) { }

    record Move(int to, int month, long n) { }

    private static final String LETTERS = "bnsmlapo";
    private int[] rules = {100, 100, 400, 200, 110, 24, 5, 3};
    private StringBuilder tape = new StringBuilder();
    private int month;
    private long coin;
    private List<Town> towns = new ArrayList<>();
    private List<Road> roads = new ArrayList<>();
    private int[] took = new int[12];
    private List<Move> moves = new ArrayList<>();

    private PlainGranary copy() {
        PlainGranary c = new PlainGranary();
        c.rules = rules;
        c.month = month;
        c.coin = coin;
        for (Town t : towns) {
            c.towns.add(t.copy());
        }
        c.roads.addAll(roads);
        c.moves.addAll(moves);
        c.took = took.clone();
        return c;
    }

    private int rule(char letter) {
        return rules[LETTERS.indexOf(letter)];
    }

    private boolean isTown(int t) {
        return t >= 0 && t < towns.size();
    }

    int feed(int... words) {
        if (tape.length() > 40) {
            return -1;
        }
        for (int w : words) {
            tape.append((char) (w >>> 24)).append((char) (w >> 16 & 255)).append((char) (w >> 8 & 255)).append((char) (w & 255));
        }
        return tape.length();
    }

    int edict(int n) {
        if (n < 0 || n > tape.length()) {
            return -1;
        }
        String text = tape.substring(0, n);
        tape.setLength(0);
        int[] now = {100, 100, 400, 200, 110, 24, 5, 3};
        int i = 0;
        while (true) {
            int which = i < n ? LETTERS.indexOf(text.charAt(i)) : -1;
            if (which < 0) {
                return 100 + i;
            }
            int first = ++i;
            int value = 0;
            while (i < n && text.charAt(i) >= '0' && text.charAt(i) <= '9') {
                if (i - first == 4) {
                    return 300 + i;
                }
                value = value * 10 + text.charAt(i++) - '0';
            }
            if (i == first) {
                return 200 + i;
            }
            char letter = LETTERS.charAt(which);
            if (letter == 'l' && value < 100 || letter == 'a' && (value < 1 || value > 999) || letter == 'p' && value > 100) {
                return 400 + first;
            }
            now[which] = value;
            if (i == n) {
                rules = now;
                return 0;
            }
            if (text.charAt(i++) != ';') {
                return 500 + i - 1;
            }
        }
    }

    int rule(int letter) {
        return letter < 0 || LETTERS.indexOf(letter) < 0 ? -1 : rules[LETTERS.indexOf(letter)];
    }

    int town(int eats, int market, int room) {
        if (towns.size() == 8 || eats < 1 || eats > 1000 || market < 0 || market > 100000 || room < 0 || room > 50000) {
            return -1;
        }
        Town t = new Town();
        t.eats = eats;
        t.market = market;
        t.room = room;
        towns.add(t);
        return towns.size() - 1;
    }

    int road(int a, int b, int way, int carts) {
        if (roads.size() == 12 || !isTown(a) || !isTown(b) || a == b || way < 1 || way > 6 || carts < 1 || carts > 10000) {
            return -1;
        }
        roads.add(new Road(a, b, way, carts));
        return roads.size() - 1;
    }

    boolean coin(long n) {
        if (n < 0 || n > 1000000000) {
            return false;
        }
        coin = n;
        return true;
    }

    boolean harvest(int t, int n) {
        if (!isTown(t) || n < 0 || n > 100000) {
            return false;
        }
        towns.get(t).told = n;
        return true;
    }

    int step(int n) {
        if (n < 1 || n > 24 || month + n > 2000) {
            return -1;
        }
        for (int i = 0; i < n; i++) {
            aMonth();
        }
        return month;
    }

    private void aMonth() {
        month++;
        took = new int[12];
        for (Move m : new ArrayList<>(moves)) {
            if (m.month() == month) {
                Town t = towns.get(m.to());
                long in = Math.min(m.n(), t.room - t.real());
                t.comes(in, month);
                t.market += m.n() - in;
                moves.remove(m);
            }
        }
        for (Town t : towns) {
            t.market += t.told;
            t.told = 0;
            if (month % 12 == 9) {
                long paid = Math.min(t.owes, Math.min(t.market, t.room - t.real()));
                t.owes -= paid;
                t.market -= paid;
                t.comes(paid, month);
            }
        }
        for (Town t : towns) {
            trade(t);
        }
        for (Town t : towns) {
            long lacks = Math.max(0, t.eats - t.market);
            t.hunger += lacks;
            t.market = Math.max(0, t.market - t.eats);
        }
        for (Town t : towns) {
            spoil(t);
        }
        if (rule('o') != 0 && month % 12 == 0) {
            for (Town t : towns) {
                long part = Math.min(t.market, (long) Math.ceil((double) t.real() / rule('o')));
                t.isTaken(part);
                t.comes(part, month);
            }
        }
    }

    private void trade(Town t) {
        long price = t.price();
        long n = 0;
        if (price <= rule('b')) {
            while (n < rule('n') && t.real() < t.room && t.market > 0 && coin >= price) {
                n++;
                t.market--;
                coin -= price;
                t.comes(1, month);
            }
            t.bought += n;
        } else if (price >= rule('s')) {
            n = Math.min(rule('m'), t.real());
            t.isTaken(n);
            t.market += n;
            coin += n * price;
            t.sold += n;
        }
    }

    private void spoil(Town t) {
        for (Lot l : new ArrayList<>(t.lots)) {
            if (month - l.month >= rule('a')) {
                long part = l.real * rule('p') / 100 + (l.real * rule('p') % 100 == 0 ? 0 : 1);
                l.real -= part;
                l.book -= part;
                t.spoilt += part;
                if (l.real == 0) {
                    t.found += l.book;
                    t.lots.remove(l);
                }
            }
        }
    }

    boolean move(int t, int road, int n) {
        if (!isTown(t) || road < 0 || road >= roads.size() || n < 1) {
            return false;
        }
        Road r = roads.get(road);
        if (r.a() != t && r.b() != t || towns.get(t).real() < n || r.carts() - took[road] < n || moves.size() == 60) {
            return false;
        }
        took[road] += n;
        towns.get(t).isTaken(n);
        moves.add(new Move(r.a() == t ? r.b() : r.a(), month + r.way(), n));
        return true;
    }

    long loan(int t, int n) {
        if (!isTown(t) || n < 1 || towns.get(t).real() < n) {
            return -1;
        }
        Town at = towns.get(t);
        at.isTaken(n);
        at.market += n;
        at.owes += ((long) n * rule('l') + 99) / 100;
        return at.owes;
    }

    boolean steal(int t, int n) {
        if (!isTown(t) || n < 1 || towns.get(t).real() < n) {
            return false;
        }
        Town at = towns.get(t);
        at.stolen += n;
        for (Lot l : at.lots) {
            long part = Math.min(n, l.real);
            if (part > 0) {
                l.real -= part;
                l.measured = false;
                n -= (int) part;
            }
        }
        return true;
    }

    int measure(int t, int i) {
        if (!isTown(t) || i < 0 || i >= towns.get(t).lots.size()) {
            return -1;
        }
        Lot l = towns.get(t).lots.get(i);
        long more = l.book - l.real;
        towns.get(t).found += more;
        l.book = l.real;
        l.measured = true;
        if (l.real == 0) {
            towns.get(t).lots.remove(i);
        }
        return (int) more;
    }

    long missing(int t, int what) {
        if (!isTown(t) || what < 0 || what > 1) {
            return -1;
        }
        long open = towns.get(t).lots.stream().filter(l -> !l.measured).mapToLong(l -> l.book).sum();
        return towns.get(t).found + what * open;
    }

    long foretold(int n) {
        if (n < 1 || n > 24) {
            return -1;
        }
        PlainGranary c = copy();
        for (int i = 0; i < n; i++) {
            c.aMonth();
        }
        return c.count(6);
    }

    int best(int t, int n) {
        if (!isTown(t) || n < 1 || n > 24) {
            return -1;
        }
        long least = foretold(n);
        int best = -1;
        for (int r = 0; r < roads.size(); r++) {
            PlainGranary c = copy();
            long most = Math.min(roads.get(r).carts() - took[r], towns.get(t).real());
            if (c.move(t, r, (int) most) && c.foretold(n) < least) {
                least = c.foretold(n);
                best = r;
            }
        }
        return best;
    }

    long look(int t, int what) {
        if (!isTown(t) || what < 0 || what > 12) {
            return -1;
        }
        Town at = towns.get(t);
        long[] all = {at.eats, at.market, at.room, at.price(), at.lots.size(), at.real(), at.book(), at.hunger,
                at.spoilt, at.owes, at.bought, at.sold, at.stolen};
        return all[what];
    }

    int lot(int t, int i, int what) {
        if (!isTown(t) || i < 0 || i >= towns.get(t).lots.size() || what < 0 || what > 2) {
            return -1;
        }
        Lot l = towns.get(t).lots.get(i);
        return what == 0 ? l.month : what == 1 ? (int) l.book : l.measured ? 1 : 0;
    }

    long count(int what) {
        if (what >= 10 && what - 10 < roads.size()) {
            return took[what - 10];
        }
        if (what < 0 || what > 6) {
            return -1;
        }
        long onTheWay = moves.stream().mapToLong(Move::n).sum();
        long hunger = towns.stream().mapToLong(t -> t.hunger).sum();
        long[] all = {month, towns.size(), roads.size(), coin, onTheWay, tape.length(), hunger};
        return all[what];
    }
}
