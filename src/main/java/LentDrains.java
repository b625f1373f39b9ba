/**
 * A cathedral town whose drains keep Lent: nothing goes down for L days, and then all of it does.
 *
 * <p>The class answers by numbers alone and never throws; what it refuses, it refuses by UNKNOWN,
 * OUTSIDE, NOT or FULL, and then nothing has changed. All rows are made once, in the constructor:
 * no call makes an object.
 */
public final class LentDrains {
    public static final int NONE = -1, UNKNOWN = -1000000001, OUTSIDE = -1000000002, NOT = -1000000003, FULL = -1000000004;

    private static final int HOUSES_MOST = 8;
    private static final int RIVER = 9;
    private static final int LENT_MOST = 60;
    private static final int PIPE_MOST = 99;
    private static final int ROOM_MOST = 999;
    private static final int DAILY_MOST = 99;
    private static final int STEPS_MOST = 30;
    private static final int DAYS_FULL = 9000;
    private static final int AHEAD_MOST = 60;
    private static final int BILLION = 1000000000;

    private final Reader reader;
    private Plan plan;
    private Plan draft;
    private final State now;
    private final State trial;
    private final History history;
    private final Images images;
    private final Draws draws;
    private final Notes notes;
    private final Breath breathing;
    private final Plugs plugs;
    private final Neighbours neighbours;

    public LentDrains() {
        reader = new Reader();
        plan = new Plan();
        draft = new Plan();
        now = new State();
        trial = new State();
        history = new History();
        images = new Images();
        draws = new Draws();
        notes = new Notes();
        breathing = new Breath();
        plugs = new Plugs();
        neighbours = new Neighbours();
    }

    // ---- the town

    public int feed(int letter) {
        if (letter < 0 || letter > 255) {
            return OUTSIDE;
        }
        return reader.take(letter) ? reader.length : FULL;
    }

    public int town() {
        reader.readInto(draft);
        reader.empty();
        if (reader.faultKind != 0) {
            return -10 - reader.faultKind;
        }
        Plan former = plan;
        plan = draft;
        draft = former;
        now.clear();
        notes.clear();
        images.clear();
        history.clear();
        return plan.houses;
    }

    public int fault() {
        return reader.faultAt;
    }

    public int told(int what) {
        switch (what) {
            case 0: return plan.lent;
            case 1: return plan.pipe;
            case 2: return plan.houses;
            case 3: return reader.length;
            case 4: return now.days;
            case 5: return isLent() ? 1 : 0;
            case 6: return now.inAll(plan);
            case 7: return now.spilled;
            case 8: return now.river;
            case 9: return now.awaySet(plan);
            case 10: return notes.seen;
            case 11: return notes.entries;
            case 12: return history.count;
            default: return OUTSIDE;
        }
    }

    public int house(int h, int what) {
        if (!plan.has(h)) {
            return UNKNOWN;
        }
        switch (what) {
            case 0: return plan.room[h];
            case 1: return plan.daily[h];
            case 2: return plan.drain[h];
            case 3: return now.kept[h];
            case 4: return now.away[h];
            case 5: return plan.above[h];
            default: return OUTSIDE;
        }
    }

    // ---- deeds

    public int day(int n) {
        int refusal = refuseDays(n);
        if (refusal != 0) {
            return refusal;
        }
        for (int i = 0; i < n; i++) {
            history.remember(now);
            now.passDay(plan, NONE, 0);
        }
        return now.inAll(plan);
    }

    public int pail(int a, int b, int x) {
        if (!plan.has(a) || !plan.has(b) || a == b) {
            return UNKNOWN;
        }
        if (x < 1 || x > ROOM_MOST) {
            return OUTSIDE;
        }
        if (now.kept[a] < x || now.kept[b] + x > plan.room[b]) {
            return NOT;
        }
        history.remember(now);
        now.kept[a] -= x;
        now.kept[b] += x;
        return now.kept[b];
    }

    public int aunt(int h, int n) {
        if (!plan.has(h)) {
            return UNKNOWN;
        }
        if (n < 0 || n > AHEAD_MOST) {
            return OUTSIDE;
        }
        history.remember(now);
        int left = now.away[h];
        now.away[h] = n;
        return left;
    }

    public int hour(int n) {
        if (n < 1 || n > STEPS_MOST) {
            return OUTSIDE;
        }
        if (!plan.stands || isLent()) {
            return NOT;
        }
        for (int i = 0; i < n; i++) {
            history.remember(now);
            now.passHour(plan);
        }
        return now.inAll(plan);
    }

    public int drift(int n) {
        int refusal = refuseDays(n);
        if (refusal != 0) {
            return refusal;
        }
        for (int i = 0; i < n; i++) {
            history.remember(now);
            driftDay();
        }
        return now.inAll(plan);
    }

    public int undo(int n) {
        if (n < 1 || n > STEPS_MOST) {
            return OUTSIDE;
        }
        return history.restore(n, now) ? now.days : NOT;
    }

    // ---- tried

    public int level(int h, int n) {
        if (!plan.has(h)) {
            return UNKNOWN;
        }
        if (n < 0 || n > AHEAD_MOST) {
            return OUTSIDE;
        }
        tryDays(n);
        return trial.kept[h];
    }

    public int spills(int n) {
        if (n < 0 || n > AHEAD_MOST) {
            return OUTSIDE;
        }
        tryDays(n);
        return trial.spilled;
    }

    public int fewest() {
        int left = lentLeft();
        // With all of them away it always bears: no house ever keeps more than its room.
        int all = (1 << plan.houses) - 1;
        int found = all;
        // Sets come by rising number, so of like ones the first is the least.
        for (int set = 0; set < all; set++) {
            if (Integer.bitCount(set) < Integer.bitCount(found) && allStreamsBear(set, left)) {
                found = set;
            }
        }
        return found;
    }

    public int held() {
        return neighbours.hold(plan, now, lentLeft());
    }

    public int breath(int what) {
        if (what < 0 || what > 3) {
            return OUTSIDE;
        }
        if (plan.houses == 0) {
            return NONE;
        }
        trial.copyFrom(now);
        breathing.draw(plan, trial);
        switch (what) {
            case 0: return breathing.hours;
            case 1: return trial.spilled;
            case 2: return breathing.greatest;
            default: return breathing.whose;
        }
    }

    public int pulled(int order) {
        return plugs.readOrder(order, plan.houses) ? plugs.greatest(plan, now) : OUTSIDE;
    }

    /**
     * A house drains to one told ahead of it, so in the order of their numbers each finds all plugs
     * below it pulled: nothing ever comes to stand anywhere, and no order has a lesser number.
     */
    public int best(int what) {
        if (what < 0 || what > 1) {
            return OUTSIDE;
        }
        int order = plugs.firstOrder(plan.houses);
        if (!plugs.readOrder(order, plan.houses)) {
            return NONE;
        }
        return what == 0 ? order : plugs.greatest(plan, now);
    }

    public int dry(int n, int q) {
        if (n < 0 || n > AHEAD_MOST || q < 0 || q > 100) {
            return OUTSIDE;
        }
        long odds = BILLION;
        for (int i = 0; i < n; i++) {
            odds = odds * q / 100;
        }
        return (int) odds;
    }

    // ---- what was seen

    public int see(int h, boolean came) {
        if (!plan.has(h)) {
            return UNKNOWN;
        }
        return notes.addSeen(h, came) ? notes.seen : FULL;
    }

    public int whence() {
        return notes.fitting(plan);
    }

    public int lookAt() {
        int set = notes.fitting(plan);
        int all = Integer.bitCount(set);
        int found = NONE;
        int least = all;
        for (int h = 0; h < plan.houses; h++) {
            int by = Integer.bitCount(set & plan.above[h]);
            int greater = Math.max(by, all - by);
            // A house that does not part them leaves all in one part, and is never below least.
            if (greater < least) {
                least = greater;
                found = h;
            }
        }
        return found;
    }

    public int write(int h, int x) {
        if (!plan.has(h)) {
            return UNKNOWN;
        }
        if (x < 0 || x > ROOM_MOST) {
            return OUTSIDE;
        }
        return notes.addEntry(h, x) ? notes.entries : FULL;
    }

    public int judge() {
        return notes.firstWrong(plan, now);
    }

    public int tear() {
        int both = notes.seen + notes.entries;
        notes.clear();
        return both;
    }

    // ---- images

    public int seed(int v) {
        if (v < 0) {
            return OUTSIDE;
        }
        int was = draws.value;
        draws.value = v;
        return was;
    }

    public int keep(int i) {
        if (!images.has(i)) {
            return UNKNOWN;
        }
        images.store(i, now, draws);
        history.clear();
        return 1;
    }

    public int goBack(int i) {
        if (!images.has(i)) {
            return UNKNOWN;
        }
        if (!images.fetch(i, now, draws)) {
            return NOT;
        }
        history.clear();
        return 1;
    }

    // ---- what the calls share

    private boolean isLent() {
        return now.days < plan.lent;
    }

    private int lentLeft() {
        return Math.max(0, plan.lent - now.days);
    }

    /** What day(n) and drift(n) refuse, or 0. */
    private int refuseDays(int n) {
        if (n < 1 || n > STEPS_MOST) {
            return OUTSIDE;
        }
        if (!plan.stands) {
            return NOT;
        }
        return now.days > DAYS_FULL ? FULL : 0;
    }

    private void driftDay() {
        int guest = NONE;
        int more = 0;
        if (plan.houses > 0) {
            int leaver = draws.next(plan.houses);
            if (draws.next(4) == 0 && plan.has(leaver)) {
                now.away[leaver] = draws.next(5);
            }
            guest = draws.next(plan.houses);
            more = draws.next(10);
        }
        now.passDay(plan, guest, more);
    }

    /** Leaves in the trial what is kept behind n days, and what these alone spill. */
    private void tryDays(int n) {
        trial.copyFrom(now);
        trial.spilled = 0;
        for (int i = 0; i < n; i++) {
            trial.passDay(plan, NONE, 0);
        }
    }

    private boolean allStreamsBear(int awaySet, int left) {
        for (int h = 0; h < plan.houses; h++) {
            if (plan.drain[h] == NONE && !streamBears(plan.above[h], awaySet, left)) {
                return false;
            }
        }
        return true;
    }

    private boolean streamBears(int stream, int awaySet, int left) {
        int spare = 0;
        for (int h = 0; h < plan.houses; h++) {
            if ((stream >> h & 1) == 1) {
                spare += plan.room[h] - now.kept[h];
                if ((awaySet >> h & 1) == 0) {
                    spare -= plan.daily[h] * left;
                }
            }
        }
        return spare >= 0;
    }

    /** The town as told: it stays as it is till another text is read. */
    private static final class Plan {
        boolean stands;
        int lent;
        int pipe;
        int houses;
        final int[] room = new int[HOUSES_MOST];
        final int[] daily = new int[HOUSES_MOST];
        final int[] drain = new int[HOUSES_MOST];
        final int[] above = new int[HOUSES_MOST];

        void clear() {
            stands = false;
            lent = 0;
            pipe = 0;
            houses = 0;
        }

        void begin(int lentDays, int pipeTakes) {
            stands = true;
            lent = lentDays;
            pipe = pipeTakes;
        }

        boolean has(int h) {
            return h >= 0 && h < houses;
        }

        void addHouse(int roomOf, int dailyOf, int to) {
            if (houses >= HOUSES_MOST) {
                return;
            }
            room[houses] = roomOf;
            daily[houses] = dailyOf;
            drain[houses] = has(to) ? to : NONE;
            above[houses] = 0;
            houses++;
            markBelow(houses - 1);
        }

        /** Each step goes to a house told earlier, so there are fewer steps than houses. */
        private void markBelow(int h) {
            int at = h;
            for (int step = 0; step < HOUSES_MOST && has(at); step++) {
                above[at] |= 1 << h;
                at = drain[at];
            }
        }
    }

    /** The text as it was fed, and what reads it. */
    private static final class Reader {
        private static final int LETTERS_MOST = 200;
        private static final int FIGURES_MOST = 3;
        private static final int MISPLACED = 1;
        private static final int BAD_NUMBER = 2;
        private static final int TOO_MANY = 3;

        private final int[] letters = new int[LETTERS_MOST];
        int length = 0;
        int faultKind = 0;
        int faultAt = NONE;
        private int at = 0;

        boolean take(int letter) {
            if (length >= LETTERS_MOST) {
                return false;
            }
            letters[length] = letter;
            length++;
            return true;
        }

        void empty() {
            length = 0;
        }

        /** A text without a word leaves the plan without a town; behind a fault the plan is worth nothing. */
        void readInto(Plan into) {
            into.clear();
            at = 0;
            faultKind = 0;
            faultAt = NONE;
            for (int clause = 0; clause < LETTERS_MOST && faultKind == 0; clause++) {
                skipBlanks();
                if (at >= length) {
                    break;
                }
                readClause(into);
            }
        }

        private void readClause(Plan into) {
            boolean lent = letterHere('t');
            boolean house = letterHere('h') && into.stands;
            if (!lent && !house) {
                blame(MISPLACED, at);
            } else if (lent ? into.stands : into.houses >= HOUSES_MOST) {
                blame(TOO_MANY, at);
            } else if (lent) {
                readLent(into);
            } else {
                readHouse(into);
            }
        }

        private void readLent(Plan into) {
            at++;
            int days = readNumber(1, LENT_MOST);
            int takes = readNumber(1, PIPE_MOST);
            readEnd();
            if (faultKind == 0) {
                into.begin(days, takes);
            }
        }

        private void readHouse(Plan into) {
            at++;
            int room = readNumber(0, ROOM_MOST);
            int daily = readNumber(0, DAILY_MOST);
            skipBlanks();
            int first = at;
            int to = readNumber(0, RIVER);
            if (to != RIVER && !into.has(to)) {
                blame(BAD_NUMBER, first);
            }
            readEnd();
            if (faultKind == 0) {
                into.addHouse(room, daily, to);
            }
        }

        private int readNumber(int least, int most) {
            skipBlanks();
            int first = at;
            int value = 0;
            while (at < length && isFigure(letters[at])) {
                // Beyond three figures the value is of no matter, and might not fit.
                if (at - first < FIGURES_MOST) {
                    value = value * 10 + letters[at] - '0';
                }
                at++;
            }
            if (at == first) {
                blame(MISPLACED, first);
            } else if (at - first > FIGURES_MOST || value < least || value > most) {
                blame(BAD_NUMBER, first);
            }
            return value;
        }

        private void readEnd() {
            skipBlanks();
            if (!letterHere(';')) {
                blame(MISPLACED, at);
            }
            at++;
        }

        private void skipBlanks() {
            while (at < length && letters[at] == ' ') {
                at++;
            }
        }

        private boolean letterHere(int letter) {
            return at < length && letters[at] == letter;
        }

        private static boolean isFigure(int letter) {
            return letter >= '0' && letter <= '9';
        }

        /** The text is read from its first letter on, so the first blame is the one that counts. */
        private void blame(int kind, int letter) {
            if (faultKind == 0) {
                faultKind = kind;
                faultAt = letter;
            }
        }
    }

    /** All that days, pails, aunts and hours change. */
    private static final class State {
        private static final int COUNTED_MOST = 9999999;
        static final int CELLS = 2 * HOUSES_MOST + 3;

        final int[] kept = new int[HOUSES_MOST];
        final int[] away = new int[HOUSES_MOST];
        int days = 0;
        int spilled = 0;
        int river = 0;

        void clear() {
            for (int h = 0; h < HOUSES_MOST; h++) {
                kept[h] = 0;
                away[h] = 0;
            }
            days = 0;
            spilled = 0;
            river = 0;
        }

        void copyFrom(State other) {
            System.arraycopy(other.kept, 0, kept, 0, HOUSES_MOST);
            System.arraycopy(other.away, 0, away, 0, HOUSES_MOST);
            days = other.days;
            spilled = other.spilled;
            river = other.river;
        }

        /** The house that has a guest (NONE: there is none) lets go so much more than by itself. */
        void passDay(Plan plan, int guest, int more) {
            boolean lent = days < plan.lent;
            for (int h = 0; h < plan.houses; h++) {
                int gone = plan.daily[h] + (h == guest ? more : 0);
                if (away[h] > 0) {
                    away[h]--;
                } else if (lent) {
                    kept[h] += gone;
                } else {
                    addToRiver(gone);
                }
            }
            spillOver(plan);
            days++;
        }

        /**
         * A house drains to one told ahead of it: by rising number, nothing has yet come into a house
         * when its own share leaves it, which is the same as all at once.
         */
        void passHour(Plan plan) {
            for (int h = 0; h < plan.houses; h++) {
                int gone = Math.min(plan.pipe, kept[h]);
                int to = plan.drain[h];
                kept[h] -= gone;
                if (plan.has(to)) {
                    kept[to] += gone;
                } else {
                    addToRiver(gone);
                }
            }
            spillOver(plan);
        }

        private void spillOver(Plan plan) {
            for (int h = 0; h < plan.houses; h++) {
                if (kept[h] > plan.room[h]) {
                    spilled = Math.min(COUNTED_MOST, spilled + kept[h] - plan.room[h]);
                    kept[h] = plan.room[h];
                }
            }
        }

        private void addToRiver(int gone) {
            river = Math.min(COUNTED_MOST, river + gone);
        }

        int inAll(Plan plan) {
            int sum = 0;
            for (int h = 0; h < plan.houses; h++) {
                sum += kept[h];
            }
            return sum;
        }

        int awaySet(Plan plan) {
            int set = 0;
            for (int h = 0; h < plan.houses; h++) {
                if (away[h] > 0) {
                    set |= 1 << h;
                }
            }
            return set;
        }
    }

    /** States side by side in one row: an object for each would fill the room. */
    private static final class Shelf {
        private final int places;
        private final int[] cells;

        Shelf(int places) {
            this.places = Math.max(0, places);
            cells = new int[this.places * State.CELLS];
        }

        void put(int place, State from) {
            if (place < 0 || place >= places) {
                return;
            }
            int start = place * State.CELLS;
            System.arraycopy(from.kept, 0, cells, start, HOUSES_MOST);
            System.arraycopy(from.away, 0, cells, start + HOUSES_MOST, HOUSES_MOST);
            cells[start + 2 * HOUSES_MOST] = from.days;
            cells[start + 2 * HOUSES_MOST + 1] = from.spilled;
            cells[start + 2 * HOUSES_MOST + 2] = from.river;
        }

        void get(int place, State into) {
            if (place < 0 || place >= places) {
                return;
            }
            int start = place * State.CELLS;
            System.arraycopy(cells, start, into.kept, 0, HOUSES_MOST);
            System.arraycopy(cells, start + HOUSES_MOST, into.away, 0, HOUSES_MOST);
            into.days = cells[start + 2 * HOUSES_MOST];
            into.spilled = cells[start + 2 * HOUSES_MOST + 1];
            into.river = cells[start + 2 * HOUSES_MOST + 2];
        }
    }

    /** The states ahead of the latest deeds, in a ring: one deed too many pushes out the oldest. */
    private static final class History {
        private static final int DEEDS_MOST = 30;

        private final Shelf shelf = new Shelf(DEEDS_MOST);
        private int end = 0;
        int count = 0;

        void clear() {
            end = 0;
            count = 0;
        }

        void remember(State state) {
            shelf.put(end, state);
            end = (end + 1) % DEEDS_MOST;
            count = Math.min(DEEDS_MOST, count + 1);
        }

        boolean restore(int deeds, State into) {
            if (deeds < 1 || deeds > count) {
                return false;
            }
            end = (end - deeds + DEEDS_MOST) % DEEDS_MOST;
            count -= deeds;
            shelf.get(end, into);
            return true;
        }
    }

    /** Two states with their seeds, to go on from. */
    private static final class Images {
        private static final int IMAGES_MOST = 2;

        private final Shelf shelf = new Shelf(IMAGES_MOST);
        private final int[] seeds = new int[IMAGES_MOST];
        private int storedSet = 0;

        void clear() {
            storedSet = 0;
        }

        boolean has(int i) {
            return i >= 0 && i < IMAGES_MOST;
        }

        void store(int i, State from, Draws draws) {
            if (has(i)) {
                shelf.put(i, from);
                seeds[i] = draws.value;
                storedSet |= 1 << i;
            }
        }

        boolean fetch(int i, State into, Draws draws) {
            if (!has(i) || (storedSet >> i & 1) == 0) {
                return false;
            }
            shelf.get(i, into);
            draws.value = seeds[i];
            return true;
        }
    }

    /** The seed, and what is drawn by it. */
    private static final class Draws {
        private static final long BELOW = 1L << 31;

        int value = 0;

        int next(int n) {
            value = (int) ((value * 1103515245L + 12345L) % BELOW);
            return n < 1 ? 0 : value / 65536 % n;
        }
    }

    /** What was seen, and the book. */
    private static final class Notes {
        private static final int SEEN_MOST = 6;
        private static final int ENTRIES_MOST = 20;

        private final int[] seenBy = new int[SEEN_MOST];
        private final boolean[] seenCame = new boolean[SEEN_MOST];
        private final int[] entryHouse = new int[ENTRIES_MOST];
        private final int[] entryAmount = new int[ENTRIES_MOST];
        int seen = 0;
        int entries = 0;

        void clear() {
            seen = 0;
            entries = 0;
        }

        boolean addSeen(int h, boolean came) {
            if (seen >= SEEN_MOST) {
                return false;
            }
            seenBy[seen] = h;
            seenCame[seen] = came;
            seen++;
            return true;
        }

        boolean addEntry(int h, int amount) {
            if (entries >= ENTRIES_MOST) {
                return false;
            }
            entryHouse[entries] = h;
            entryAmount[entries] = amount;
            entries++;
            return true;
        }

        /** The houses by which all that was seen is so. */
        int fitting(Plan plan) {
            int set = (1 << plan.houses) - 1;
            for (int i = 0; i < seen; i++) {
                if (plan.has(seenBy[i])) {
                    int above = plan.above[seenBy[i]];
                    set &= seenCame[i] ? above : ~above;
                }
            }
            return set;
        }

        int firstWrong(Plan plan, State state) {
            for (int i = 0; i < entries; i++) {
                if (plan.has(entryHouse[i]) && state.kept[entryHouse[i]] != entryAmount[i]) {
                    return i;
                }
            }
            return NONE;
        }
    }

    /** The great breath, tried to its end. */
    private static final class Breath {
        private static final int HOURS_MOST = 999;

        int hours = 0;
        int greatest = 0;
        int whose = NONE;

        /** What spills by it is left in the state that it is tried on. */
        void draw(Plan plan, State state) {
            state.spilled = 0;
            greatest = NONE;
            whose = NONE;
            lookRound(plan, state);
            int passed = 0;
            while (passed < HOURS_MOST && state.inAll(plan) > 0) {
                state.passHour(plan);
                lookRound(plan, state);
                passed++;
            }
            hours = state.inAll(plan) == 0 ? passed : NONE;
        }

        private void lookRound(Plan plan, State state) {
            for (int h = 0; h < plan.houses; h++) {
                if (state.kept[h] > greatest) {
                    greatest = state.kept[h];
                    whose = h;
                }
            }
        }
    }

    /** Plugs pulled one behind the other. */
    private static final class Plugs {
        private static final int PLUGS_MOST = 6;

        private final int[] order = new int[PLUGS_MOST];
        private final int[] standing = new int[HOUSES_MOST];
        private int count = 0;
        private int pulledSet = 0;

        /** 1, 2, 3 and on, as many as there are houses; 0, which is no order, if they are too many. */
        int firstOrder(int houses) {
            int figures = 0;
            for (int h = 0; h < houses && houses <= PLUGS_MOST; h++) {
                figures = figures * 10 + h + 1;
            }
            return figures;
        }

        boolean readOrder(int figures, int houses) {
            if (houses < 1 || houses > PLUGS_MOST || figures < 1) {
                return false;
            }
            count = houses;
            int rest = figures;
            int used = 0;
            for (int i = houses - 1; i >= 0; i--) {
                int h = rest % 10 - 1;
                if (h < 0 || h >= houses || (used >> h & 1) == 1) {
                    return false;
                }
                used |= 1 << h;
                order[i] = h;
                rest /= 10;
            }
            return rest == 0;
        }

        /** The greatest that ever stood in one house, by the order that was read last. */
        int greatest(Plan plan, State state) {
            int most = 0;
            for (int h = 0; h < plan.houses; h++) {
                standing[h] = state.kept[h];
                most = Math.max(most, standing[h]);
            }
            pulledSet = 0;
            for (int i = 0; i < count; i++) {
                most = Math.max(most, pull(plan, order[i]));
            }
            return most;
        }

        /** How much stands then where it came to stand; 0 if that is the river. */
        private int pull(Plan plan, int h) {
            if (!plan.has(h)) {
                return 0;
            }
            pulledSet |= 1 << h;
            int gone = standing[h];
            standing[h] = 0;
            int at = h;
            for (int step = 0; step < HOUSES_MOST && plan.has(at) && (pulledSet >> at & 1) == 1; step++) {
                at = plan.drain[at];
            }
            if (!plan.has(at)) {
                return 0;
            }
            standing[at] += gone;
            return standing[at];
        }
    }

    /** What houses hold for those that a pipe joins to them. */
    private static final class Neighbours {
        /** What a house will have above its room; below 0: the room that it will have left. */
        private final int[] over = new int[HOUSES_MOST];

        /**
         * By falling number all that drain to a house are settled ahead of it. Then the pipe down is
         * the only one left to it, and as much as it can by that one is never too much.
         */
        int hold(Plan plan, State state, int left) {
            for (int h = 0; h < plan.houses; h++) {
                over[h] = state.kept[h] + plan.daily[h] * left - plan.room[h];
            }
            int sum = 0;
            for (int h = plan.houses - 1; h >= 0; h--) {
                int to = plan.drain[h];
                if (plan.has(to)) {
                    sum += over[h] > 0 ? settle(h, to) : settle(to, h);
                }
            }
            return sum;
        }

        private int settle(int giver, int taker) {
            int amount = Math.min(over[giver], -over[taker]);
            if (amount <= 0) {
                return 0;
            }
            over[giver] -= amount;
            over[taker] += amount;
            return amount;
        }
    }
}
