import java.util.ArrayList;

public final class EvenGranary {
    public static final int NONE = -1;

    private static final int MOST_TOWNS = 8;
    private static final int MOST_ROADS = 12;
    private static final int MOST_EATS = 1000;
    private static final int MOST_MARKET = 100000;
    private static final int MOST_ROOM = 50000;
    private static final int MOST_WAY = 6;
    private static final int MOST_CARTS = 10000;
    private static final int MOST_HARVEST = 100000;
    private static final long MOST_COIN = 1000000000L;
    private static final int MOST_MONTHS_AT_ONCE = 24;
    private static final int LAST_MONTH = 2000;
    private static final int FED_AT_ONCE = 20;
    private static final int FIRST_ROAD_COUNT = 10;

    private final Tape tape;
    private final Edict law;
    private final Realm realm;
    // FORETOLD is played out here, so that the realm stays as it is and no call makes a copy anew.
    private final Realm trial;
    private final ArrayList<Road> roads;

    public EvenGranary() {
        tape = new Tape();
        law = new Edict();
        realm = new Realm();
        trial = new Realm();
        roads = new ArrayList<Road>();
    }

    public int feed(int a, int b, int c, int d, int e) {
        if (!tape.hasRoomFor(FED_AT_ONCE)) {
            return NONE;
        }
        tape.append(a);
        tape.append(b);
        tape.append(c);
        tape.append(d);
        tape.append(e);
        return tape.length();
    }

    public int edict(int n) {
        if (n < 0 || n > tape.length()) {
            return NONE;
        }
        int answer = law.proclaim(tape, n);
        tape.wipe();
        return answer;
    }

    public int rule(int letter) {
        int which = Edict.letterIndex(letter);
        return which < 0 ? NONE : law.number(which);
    }

    public int town(int eats, int market, int room) {
        if (realm.townCount() >= MOST_TOWNS || !isWithin(eats, 1, MOST_EATS)
                || !isWithin(market, 0, MOST_MARKET) || !isWithin(room, 0, MOST_ROOM)) {
            return NONE;
        }
        realm.settle(new Town(eats, market, room));
        return realm.townCount() - 1;
    }

    public int road(int a, int b, int way, int carts) {
        if (roads.size() >= MOST_ROADS || a == b || realm.townAt(a) == null || realm.townAt(b) == null
                || !isWithin(way, 1, MOST_WAY) || !isWithin(carts, 1, MOST_CARTS)) {
            return NONE;
        }
        roads.add(new Road(a, b, way, carts));
        return roads.size() - 1;
    }

    public boolean coin(long n) {
        if (n < 0 || n > MOST_COIN) {
            return false;
        }
        realm.coin = n;
        return true;
    }

    public boolean harvest(int t, int n) {
        Town town = realm.townAt(t);
        if (town == null || !isWithin(n, 0, MOST_HARVEST)) {
            return false;
        }
        town.harvest = n;
        return true;
    }

    public int step(int n) {
        if (!isWithin(n, 1, MOST_MONTHS_AT_ONCE) || realm.month + n > LAST_MONTH) {
            return NONE;
        }
        realm.passMonths(n, law);
        for (int r = 0; r < roads.size(); r++) {
            roads.get(r).taken = 0;
        }
        return realm.month;
    }

    public boolean move(int t, int road, int n) {
        Road by = roadAt(road);
        if (by == null || n < 1 || n > movable(t, by)) {
            return false;
        }
        realm.send(t, by, n);
        by.taken += n;
        return true;
    }

    public long loan(int t, int n) {
        Town town = realm.townAt(t);
        if (town == null || !isWithin(n, 1, town.store.held())) {
            return NONE;
        }
        town.lend(n, law.number(Edict.LOAN_HUNDREDTHS));
        return town.owes;
    }

    public boolean steal(int t, int n) {
        Town town = realm.townAt(t);
        if (town == null || !isWithin(n, 1, town.store.held())) {
            return false;
        }
        town.store.pilfer(n);
        town.stolen += n;
        return true;
    }

    public int measure(int t, int i) {
        Town town = realm.townAt(t);
        if (town == null || !town.store.hasLot(i)) {
            return NONE;
        }
        return town.store.audit(i);
    }

    public long missing(int t, int what) {
        Town town = realm.townAt(t);
        if (town == null || !isWithin(what, 0, 1)) {
            return NONE;
        }
        long least = town.store.foundEver();
        return what == 0 ? least : least + town.store.unmeasuredBook();
    }

    public long foretold(int n) {
        if (!isWithin(n, 1, MOST_MONTHS_AT_ONCE)) {
            return NONE;
        }
        trial.imitate(realm);
        return trial.passMonths(n, law);
    }

    public int best(int t, int n) {
        if (realm.townAt(t) == null || !isWithin(n, 1, MOST_MONTHS_AT_ONCE)) {
            return NONE;
        }
        trial.imitate(realm);
        long least = trial.passMonths(n, law);
        int bestRoad = NONE;
        // Where no HUNGER is left none can be less, so the other ROADS need no trial.
        for (int r = 0; r < roads.size() && least > 0; r++) {
            Road by = roads.get(r);
            int most = movable(t, by);
            if (most >= 1) {
                trial.imitate(realm);
                trial.send(t, by, most);
                long hunger = trial.passMonths(n, law);
                if (hunger < least) {
                    least = hunger;
                    bestRoad = r;
                }
            }
        }
        return bestRoad;
    }

    public long look(int t, int what) {
        Town town = realm.townAt(t);
        if (town == null) {
            return NONE;
        }
        switch (what) {
            case 0: return town.eats;
            case 1: return town.market;
            case 2: return town.store.room();
            case 3: return town.price();
            case 4: return town.store.lotCount();
            case 5: return town.store.held();
            case 6: return town.store.bookInAll();
            case 7: return town.hunger;
            case 8: return town.spoilt;
            case 9: return town.owes;
            case 10: return town.bought;
            case 11: return town.sold;
            case 12: return town.stolen;
            default: return NONE;
        }
    }

    public int lot(int t, int i, int what) {
        Town town = realm.townAt(t);
        if (town == null || !town.store.hasLot(i)) {
            return NONE;
        }
        switch (what) {
            case 0: return town.store.monthOf(i);
            case 1: return town.store.bookOf(i);
            case 2: return town.store.measuredOf(i);
            default: return NONE;
        }
    }

    public long count(int what) {
        switch (what) {
            case 0: return realm.month;
            case 1: return realm.townCount();
            case 2: return roads.size();
            case 3: return realm.coin;
            case 4: return realm.measuresOnTheWay();
            case 5: return tape.length();
            case 6: return realm.hungerEver();
            default: return takenByRoad(what);
        }
    }

    private long takenByRoad(int what) {
        if (what < FIRST_ROAD_COUNT) {
            return NONE;
        }
        Road road = roadAt(what - FIRST_ROAD_COUNT);
        return road == null ? NONE : road.taken;
    }

    private Road roadAt(int r) {
        return r < 0 || r >= roads.size() ? null : roads.get(r);
    }

    /** The most that one MOVE from a TOWN by a ROAD can take now; 0 where there can be no MOVE. */
    private int movable(int t, Road by) {
        Town from = realm.townAt(t);
        if (from == null || !by.touches(t) || !realm.canSend()) {
            return 0;
        }
        return Math.min(by.carts - by.taken, from.store.held());
    }

    private static boolean isWithin(int n, int least, int most) {
        return n >= least && n <= most;
    }

    /** Bytes that were fed and are not yet read as an EDICT. */
    static final class Tape {
        private static final int MOST_BYTES = 60;

        private final int[] bytes = new int[MOST_BYTES];
        private int length;

        int length() {
            return length;
        }

        boolean hasRoomFor(int more) {
            return length + more <= MOST_BYTES;
        }

        void append(int word) {
            for (int shift = 24; shift >= 0; shift -= 8) {
                if (length < MOST_BYTES) {
                    bytes[length] = (word >>> shift) & 255;
                    length++;
                }
            }
        }

        int byteAt(int i) {
            return i < 0 || i >= length ? NONE : bytes[i];
        }

        void wipe() {
            length = 0;
        }
    }

    /** The numbers by which the next MONTH goes, and the reader of the TEXT that tells them. */
    static final class Edict {
        static final int BUY_AT = 0;
        static final int BUY_MOST = 1;
        static final int SELL_AT = 2;
        static final int SELL_MOST = 3;
        static final int LOAN_HUNDREDTHS = 4;
        static final int SPOIL_AGE = 5;
        static final int SPOIL_HUNDREDTHS = 6;
        static final int TURN_PART = 7;

        private static final String LETTERS = "bnsmlapo";
        private static final int[] FIRST = {100, 100, 400, 200, 110, 24, 5, 3};
        private static final int[] LEAST = {0, 0, 0, 0, 100, 1, 0, 0};
        private static final int[] MOST = {9999, 9999, 9999, 9999, 9999, 999, 100, 9999};
        private static final int MOST_DIGITS = 4;

        private static final int NO_LETTER = 1;
        private static final int NO_DIGIT = 2;
        private static final int FIFTH_DIGIT = 3;
        private static final int WRONG_NUMBER = 4;
        private static final int NO_SEPARATOR = 5;

        private final int[] numbers = FIRST.clone();
        // A TEXT with a FAULT must leave the numbers alone, so it is read into these first.
        private final int[] draft = FIRST.clone();

        /** The place of a byte among the letters, or less than 0. */
        static int letterIndex(int letter) {
            return letter < 0 || letter > 255 ? NONE : LETTERS.indexOf((char) letter);
        }

        int number(int which) {
            return which < 0 || which >= numbers.length ? 0 : numbers[which];
        }

        /** Takes the first n bytes as THE EDICT: 0, or the FAULT that keeps the old one. */
        int proclaim(Tape tape, int n) {
            System.arraycopy(FIRST, 0, draft, 0, draft.length);
            int at = 0;
            for (int clause = 0; clause <= n; clause++) {
                int letter = at < n ? letterIndex(tape.byteAt(at)) : NONE;
                if (letter < 0 || letter >= draft.length) {
                    return fault(NO_LETTER, at);
                }
                int first = at + 1;
                int end = digitsEnd(tape, n, first);
                if (end == first) {
                    return fault(NO_DIGIT, first);
                }
                if (end - first > MOST_DIGITS) {
                    return fault(FIFTH_DIGIT, first + MOST_DIGITS);
                }
                int number = numberAt(tape, first, end);
                if (number < LEAST[letter] || number > MOST[letter]) {
                    return fault(WRONG_NUMBER, first);
                }
                draft[letter] = number;
                if (end >= n) {
                    break;
                }
                if (tape.byteAt(end) != ';') {
                    return fault(NO_SEPARATOR, end);
                }
                at = end + 1;
            }
            System.arraycopy(draft, 0, numbers, 0, numbers.length);
            return 0;
        }

        private static int digitsEnd(Tape tape, int n, int first) {
            int end = first;
            while (end < n && tape.byteAt(end) >= '0' && tape.byteAt(end) <= '9') {
                end++;
            }
            return end;
        }

        private static int numberAt(Tape tape, int first, int end) {
            int number = 0;
            for (int i = first; i < end; i++) {
                number = 10 * number + tape.byteAt(i) - '0';
            }
            return number;
        }

        private static int fault(int number, int place) {
            return 100 * number + place;
        }
    }

    /** A ROAD, and what its CARTS took since the last MONTH. */
    static final class Road {
        final int a;
        final int b;
        final int way;
        final int carts;
        int taken;

        Road(int a, int b, int way, int carts) {
            this.a = a;
            this.b = b;
            this.way = way;
            this.carts = carts;
        }

        boolean touches(int t) {
            return t == a || t == b;
        }

        int otherEnd(int t) {
            return t == a ? b : a;
        }
    }

    /** MOVES on the way, in the order in which they left. */
    static final class Convoys {
        private static final int MOST_CONVOYS = 60;

        private final int[] targets = new int[MOST_CONVOYS];
        private final int[] arrivals = new int[MOST_CONVOYS];
        private final int[] loads = new int[MOST_CONVOYS];
        private int size;

        int size() {
            return size;
        }

        boolean isFull() {
            return size >= MOST_CONVOYS;
        }

        void add(int target, int arrival, int load) {
            if (isFull()) {
                return;
            }
            targets[size] = target;
            arrivals[size] = arrival;
            loads[size] = load;
            size++;
        }

        boolean arrives(int i, int month) {
            return isThere(i) && arrivals[i] <= month;
        }

        int targetOf(int i) {
            return isThere(i) ? targets[i] : NONE;
        }

        int loadOf(int i) {
            return isThere(i) ? loads[i] : 0;
        }

        void removeArrived(int month) {
            int kept = 0;
            for (int i = 0; i < size; i++) {
                if (arrivals[i] > month) {
                    targets[kept] = targets[i];
                    arrivals[kept] = arrivals[i];
                    loads[kept] = loads[i];
                    kept++;
                }
            }
            size = kept;
        }

        long loadInAll() {
            long sum = 0;
            for (int i = 0; i < size; i++) {
                sum += loads[i];
            }
            return sum;
        }

        void imitate(Convoys other) {
            size = other.size;
            System.arraycopy(other.targets, 0, targets, 0, size);
            System.arraycopy(other.arrivals, 0, arrivals, 0, size);
            System.arraycopy(other.loads, 0, loads, 0, size);
        }

        private boolean isThere(int i) {
            return i >= 0 && i < size;
        }
    }

    /** A STORE: its LOTS, the oldest first, so that their MONTHS rise from the first to the last. */
    static final class Store {
        private static final int MOST_LOTS = 40;

        private final int[] months = new int[MOST_LOTS];
        private final int[] books = new int[MOST_LOTS];
        private final int[] trues = new int[MOST_LOTS];
        private final int[] measured = new int[MOST_LOTS];
        private int lots;
        private int room;
        // The sum of trues, kept because every MONTH asks for it several times.
        private int held;
        private long found;

        Store(int room) {
            this.room = room;
        }

        int room() {
            return room;
        }

        int held() {
            return held;
        }

        int space() {
            return room - held;
        }

        int lotCount() {
            return lots;
        }

        long foundEver() {
            return found;
        }

        boolean hasLot(int i) {
            return i >= 0 && i < lots;
        }

        int monthOf(int i) {
            return hasLot(i) ? months[i] : NONE;
        }

        int bookOf(int i) {
            return hasLot(i) ? books[i] : NONE;
        }

        int measuredOf(int i) {
            return hasLot(i) ? measured[i] : NONE;
        }

        long bookInAll() {
            long sum = 0;
            for (int i = 0; i < lots; i++) {
                sum += books[i];
            }
            return sum;
        }

        long unmeasuredBook() {
            long sum = 0;
            for (int i = 0; i < lots; i++) {
                if (measured[i] == 0) {
                    sum += books[i];
                }
            }
            return sum;
        }

        void put(int n, int month) {
            if (n <= 0) {
                return;
            }
            if (lots == 0 || (lots < MOST_LOTS && months[lots - 1] != month)) {
                months[lots] = month;
                books[lots] = 0;
                trues[lots] = 0;
                lots++;
            }
            int last = lots - 1;
            books[last] += n;
            trues[last] += n;
            measured[last] = 0;
            held += n;
        }

        void take(int n) {
            int need = n;
            int gone = 0;
            for (int i = 0; i < lots && need > 0; i++) {
                int part = Math.min(need, trues[i]);
                lessen(i, part);
                need -= part;
                if (trues[i] == 0) {
                    found += books[i];
                    gone++;
                }
            }
            cut(0, gone);
        }

        /** The clerk's way to take: the BOOK still shows what is gone. */
        void pilfer(int n) {
            int need = n;
            for (int i = 0; i < lots && need > 0; i++) {
                int part = Math.min(need, trues[i]);
                if (part > 0) {
                    trues[i] -= part;
                    held -= part;
                    need -= part;
                    measured[i] = 0;
                }
            }
        }

        /** Measures a LOT and answers what was FOUND by it. */
        int audit(int i) {
            if (!hasLot(i)) {
                return NONE;
            }
            int lacking = books[i] - trues[i];
            found += lacking;
            books[i] = trues[i];
            measured[i] = 1;
            if (trues[i] == 0) {
                cut(i, 1);
            }
            return lacking;
        }

        /** Spoils a part of each LOT that is of a MONTH or older, and answers how much. */
        long spoil(int newestMonth, int hundredths) {
            int old = 0;
            while (old < lots && months[old] <= newestMonth) {
                old++;
            }
            long spoilt = 0;
            // From the last to the first, so that a LOT cut out moves none that is still to come.
            for (int i = old - 1; i >= 0; i--) {
                int part = (trues[i] * hundredths + 99) / 100;
                lessen(i, part);
                spoilt += part;
                if (trues[i] == 0) {
                    found += books[i];
                    cut(i, 1);
                }
            }
            return spoilt;
        }

        void imitate(Store other) {
            lots = other.lots;
            room = other.room;
            held = other.held;
            found = other.found;
            System.arraycopy(other.months, 0, months, 0, lots);
            System.arraycopy(other.books, 0, books, 0, lots);
            System.arraycopy(other.trues, 0, trues, 0, lots);
            System.arraycopy(other.measured, 0, measured, 0, lots);
        }

        private void lessen(int i, int part) {
            if (hasLot(i)) {
                books[i] -= part;
                trues[i] -= part;
                held -= part;
            }
        }

        private void cut(int from, int n) {
            int rest = lots - from - n;
            if (from < 0 || n <= 0 || rest < 0) {
                return;
            }
            System.arraycopy(months, from + n, months, from, rest);
            System.arraycopy(books, from + n, books, from, rest);
            System.arraycopy(trues, from + n, trues, from, rest);
            System.arraycopy(measured, from + n, measured, from, rest);
            lots -= n;
        }
    }

    /** A TOWN with its MARKET and its STORE, and what came to pass in it ever. */
    static final class Town {
        int eats;
        long market;
        final Store store;
        int harvest;
        long owes;
        long hunger;
        long spoilt;
        long bought;
        long sold;
        long stolen;

        Town(int eats, int market, int room) {
            this.eats = eats;
            this.market = market;
            store = new Store(room);
        }

        int price() {
            long there = market + eats;
            return there <= 0 ? 0 : (int) (1000L * eats / there);
        }

        void receive(int n, int month) {
            int stored = Math.min(n, store.space());
            store.put(stored, month);
            market += n - stored;
        }

        void reap() {
            market += harvest;
            harvest = 0;
        }

        void payBack(int month) {
            int paid = (int) Math.min(Math.min(owes, market), store.space());
            market -= paid;
            owes -= paid;
            store.put(paid, month);
        }

        void buy(int n, int month) {
            market -= n;
            bought += n;
            store.put(n, month);
        }

        void sell(int n) {
            store.take(n);
            market += n;
            sold += n;
        }

        void lend(int n, int hundredths) {
            store.take(n);
            market += n;
            owes += ((long) n * hundredths + 99) / 100;
        }

        /** Eats, and answers the HUNGER of this MONTH. */
        long eat() {
            long eaten = Math.min(eats, market);
            long lacking = eats - eaten;
            market -= eaten;
            hunger += lacking;
            return lacking;
        }

        void spoilLots(int newestMonth, int hundredths) {
            spoilt += store.spoil(newestMonth, hundredths);
        }

        /** The MARKET takes the oldest part and gives as much new corn for it. */
        void turnOver(int part, int month) {
            if (part <= 0) {
                return;
            }
            int due = (store.held() + part - 1) / part;
            int turned = (int) Math.min(due, market);
            store.take(turned);
            store.put(turned, month);
        }

        /** Takes over all that FORETOLD needs; it knows no HARVESTS, and what was ever is not asked. */
        void imitate(Town other) {
            eats = other.eats;
            market = other.market;
            owes = other.owes;
            harvest = 0;
            store.imitate(other.store);
        }
    }

    /** All that a MONTH changes. */
    static final class Realm {
        private static final int MONTHS_OF_YEAR = 12;
        private static final int PAY_BACK_MONTH = 9;

        int month;
        long coin;
        private final ArrayList<Town> towns = new ArrayList<Town>();
        private final Convoys convoys = new Convoys();

        int townCount() {
            return towns.size();
        }

        Town townAt(int t) {
            return t < 0 || t >= towns.size() ? null : towns.get(t);
        }

        void settle(Town town) {
            towns.add(town);
        }

        boolean canSend() {
            return !convoys.isFull();
        }

        void send(int t, Road by, int n) {
            Town from = townAt(t);
            if (from == null) {
                return;
            }
            from.store.take(n);
            convoys.add(by.otherEnd(t), month + by.way, n);
        }

        long measuresOnTheWay() {
            return convoys.loadInAll();
        }

        long hungerEver() {
            long sum = 0;
            for (int t = 0; t < towns.size(); t++) {
                sum += towns.get(t).hunger;
            }
            return sum;
        }

        /** Lets MONTHS go by, and answers the HUNGER that they brought. */
        long passMonths(int n, Edict law) {
            long hunger = 0;
            for (int i = 0; i < n; i++) {
                month++;
                unload();
                reapAndPayBack();
                for (int t = 0; t < towns.size(); t++) {
                    trade(towns.get(t), law);
                }
                for (int t = 0; t < towns.size(); t++) {
                    hunger += towns.get(t).eat();
                }
                ageStores(law);
            }
            return hunger;
        }

        void imitate(Realm other) {
            month = other.month;
            coin = other.coin;
            convoys.imitate(other.convoys);
            for (int t = 0; t < other.towns.size(); t++) {
                if (t >= towns.size()) {
                    towns.add(new Town(0, 0, 0));
                }
                towns.get(t).imitate(other.towns.get(t));
            }
        }

        private void unload() {
            for (int i = 0; i < convoys.size(); i++) {
                Town target = townAt(convoys.targetOf(i));
                if (target != null && convoys.arrives(i, month)) {
                    target.receive(convoys.loadOf(i), month);
                }
            }
            convoys.removeArrived(month);
        }

        private void reapAndPayBack() {
            for (int t = 0; t < towns.size(); t++) {
                Town town = towns.get(t);
                town.reap();
                if (month % MONTHS_OF_YEAR == PAY_BACK_MONTH) {
                    town.payBack(month);
                }
            }
        }

        private void trade(Town town, Edict law) {
            int price = town.price();
            if (price <= law.number(Edict.BUY_AT)) {
                long n = Math.min(law.number(Edict.BUY_MOST), Math.min(town.store.space(), town.market));
                if (price > 0) {
                    n = Math.min(n, coin / price);
                }
                coin -= n * price;
                town.buy((int) n, month);
            } else if (price >= law.number(Edict.SELL_AT)) {
                int n = Math.min(law.number(Edict.SELL_MOST), town.store.held());
                coin += (long) n * price;
                town.sell(n);
            }
        }

        private void ageStores(Edict law) {
            int newestMonth = month - law.number(Edict.SPOIL_AGE);
            boolean yearEnds = month % MONTHS_OF_YEAR == 0;
            for (int t = 0; t < towns.size(); t++) {
                Town town = towns.get(t);
                town.spoilLots(newestMonth, law.number(Edict.SPOIL_HUNDREDTHS));
                if (yearEnds) {
                    town.turnOver(law.number(Edict.TURN_PART), month);
                }
            }
        }
    }
}
