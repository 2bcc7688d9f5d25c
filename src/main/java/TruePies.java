import java.util.Arrays;

/** The gate of an old court: who is let by for saying truly what a pie tastes of. */
public final class TruePies {
    public static final int BAD = -1, STATE = -2, FULL = -3, NONE = -9;
    public static final int NO = -1000000;

    private static final int TASTES = 6, TASTE_SETS = 64;
    private static final int MOST_LEAVES = 5, MOST_GOERS = 6, MOST_SISTERS = 4, MOST_FRIDAYS = 3;
    private static final int MOST_LETTERS = 160, MOST_TOLD = 99, MOST_SEEN = 6, MOST_UNDONE = 10, IMAGES = 2;
    private static final int FIRST_LANE = 3, LONGEST_LANE = 9, MOST_DIVISOR = 12;
    private static final int LAST_MINUTE = 999, MOST_PIES = 999, MOST_MINUTES = 9;
    private static final int LAST_DAY = 30000, MOST_DAYS = 6, CERTAIN = 10;
    private static final int FAULT_AT_0 = -10;

    private static final int AWAY = 0, GATE = 1, ROUND = 2, BY = 3;

    private static final int END = 0, WORD = 1, NUMBER = 2, SEMICOLON = 3, WRONG = 4;

    private final Text text = new Text();
    private Court court = new Court();
    // A text is read into the draft, so that a fault leaves the court as it is.
    private Court draft = new Court();
    private final Now now = new Now();
    private final History history = new History();
    private final Now[] images = new Now[IMAGES];
    private final boolean[] kept = new boolean[IMAGES];
    private final Seen seen = new Seen();
    private final Line line = new Line();
    private long trace = 0;

    public TruePies() {
        for (int i = 0; i < IMAGES; i++) {
            images[i] = new Now();
        }
    }

    // ---- the court

    public int type(int letter) {
        if (letter < 0 || letter > 255) {
            return BAD;
        }
        if (text.length >= MOST_LETTERS) {
            return FULL;
        }
        text.letters[text.length] = letter;
        text.length++;
        return text.length;
    }

    public int clear() {
        int had = text.length;
        text.length = 0;
        return had;
    }

    public int court() {
        int answer = text.readInto(draft);
        if (answer < 0) {
            return answer;
        }
        Court old = court;
        court = draft;
        draft = old;
        text.length = 0;
        now.startAnew();
        history.known = 0;
        seen.many = 0;
        for (int i = 0; i < IMAGES; i++) {
            kept[i] = false;
        }
        return answer;
    }

    public int leaf(int l, int what) {
        if (!court.hasLeaf(l)) {
            return BAD;
        }
        switch (what) {
            case 0: return court.leaves[l];
            case 1: return court.goersLetBy(l);
            default: return BAD;
        }
    }

    public int goer(int g, int what) {
        if (!court.hasGoer(g)) {
            return BAD;
        }
        switch (what) {
            case 0: return court.goers[g];
            case 1: return now.where[g];
            case 2: return now.where[g] == ROUND ? now.until[g] - now.minute : 0;
            case 3: return now.rounds[g];
            case 4: return court.leavesThatLet(g);
            default: return BAD;
        }
    }

    public int sister(int y, int taste) {
        if (y < 0 || y >= court.sisterCount || !isTaste(taste)) {
            return BAD;
        }
        return court.changed(y, taste);
    }

    public int now(int what) {
        switch (what) {
            case 0: return now.minute;
            case 1: return now.leaf;
            case 2: return now.pies;
            case 3: return now.whoAre(GATE);
            case 4: return now.whoAre(BY);
            case 5: return court.cover();
            case 6: return history.known;
            default: return BAD;
        }
    }

    // ---- what is done

    public int comes(int g) {
        if (!court.hasGoer(g)) {
            return BAD;
        }
        if (now.where[g] != AWAY) {
            return STATE;
        }
        history.remember(now);
        now.where[g] = GATE;
        return Integer.bitCount(now.whoAre(GATE));
    }

    public int says(int g, int taste) {
        if (!court.hasGoer(g) || !isTaste(taste)) {
            return BAD;
        }
        if (now.where[g] != GATE || court.leafCount == 0) {
            return STATE;
        }
        history.remember(now);
        boolean by = hasBit(court.goodTastes(now.leaf, g), taste);
        if (by) {
            now.where[g] = BY;
        } else {
            now.sendRound(g, court.lane);
        }
        now.leaf = court.leafBehind(now.leaf, 1);
        now.pies = Math.min(MOST_PIES, now.pies + 1);
        return by ? 1 : 0;
    }

    public int minutes(int n) {
        if (n < 1 || n > MOST_MINUTES) {
            return BAD;
        }
        if (now.minute + n > LAST_MINUTE) {
            return STATE;
        }
        history.remember(now);
        now.pass(n);
        return Integer.bitCount(now.whoAre(GATE));
    }

    public int undo() {
        if (history.known == 0) {
            return STATE;
        }
        history.recall(now);
        return history.known;
    }

    // ---- by

    public int fewest(int g, int what) {
        if (!court.hasGoer(g) || what < 0 || what > 1) {
            return BAD;
        }
        if (now.where[g] == BY) {
            return STATE;
        }
        for (int said = 0; said < court.leafCount; said++) {
            int good = court.goodTastes(court.leafBehind(now.leaf, said), g);
            if (good != 0) {
                return what == 0 ? said + 1 : lowestBit(good);
            }
        }
        return NONE;
    }

    public int line(int k) {
        if (k < -1 || k >= MOST_GOERS) {
            return BAD;
        }
        line.weigh(court, now);
        return k == -1 ? line.best[0] : line.goerAt(k, court, now);
    }

    // ---- what he has

    public int sees(int taste, int leaf, int by) {
        if (!isTaste(taste) || !court.hasLeaf(leaf) || by < 0 || by > 1) {
            return BAD;
        }
        if (seen.many >= MOST_SEEN) {
            return FULL;
        }
        seen.add(taste, leaf, by);
        return seen.many;
    }

    public int forget() {
        int many = seen.many;
        seen.many = 0;
        return many;
    }

    public int had(int what) {
        int many = 0;
        int inAll = TASTE_SETS - 1;
        int inSome = 0;
        for (int set = 0; set < TASTE_SETS; set++) {
            if (seen.allows(set, court)) {
                many++;
                inAll &= set;
                inSome |= set;
            }
        }
        switch (what) {
            case 0: return many;
            case 1: return many == 0 ? NONE : inAll;
            case 2: return inSome;
            default: return BAD;
        }
    }

    public int ask(int leaf) {
        if (!court.hasLeaf(leaf)) {
            return BAD;
        }
        int many = had(0);
        if (many <= 1) {
            return NONE;
        }
        int best = 0;
        int smallest = many + 1;
        for (int taste = 0; taste < TASTES; taste++) {
            int by = setsLetBy(taste, leaf);
            int greaterPart = Math.max(by, many - by);
            if (greaterPart < smallest) {
                smallest = greaterPart;
                best = taste;
            }
        }
        return best;
    }

    private int setsLetBy(int taste, int leaf) {
        int by = 0;
        for (int set = 0; set < TASTE_SETS; set++) {
            if (court.counts(taste, leaf) && hasBit(set, taste) && seen.allows(set, court)) {
                by++;
            }
        }
        return by;
    }

    // ---- tales, Fridays

    public int tale(int taste, int n) {
        if (!isTaste(taste) || n < 0 || n > MOST_TOLD) {
            return BAD;
        }
        return court.passedOn(taste, n);
    }

    public int first(int taste, int n) {
        if (!isTaste(taste) || n < 0 || n > MOST_TOLD) {
            return BAD;
        }
        int bits = 0;
        for (int said = 0; said < TASTES; said++) {
            if (court.passedOn(said, n) == taste) {
                bits |= 1 << said;
            }
        }
        return bits;
    }

    public int when(int day) {
        if (day < 0 || day > LAST_DAY) {
            return BAD;
        }
        return court.dayOfAllFridays(day);
    }

    public int odds(int x, int n, int k, int what) {
        if (x < 0 || x > CERTAIN || n < 0 || n > MOST_DAYS || k < 0 || k > MOST_DAYS || what < 0 || what > 1) {
            return BAD;
        }
        int upper = 0;
        for (int days = k; days <= n; days++) {
            upper += choices(n, days) * power(x, days) * power(CERTAIN - x, n - days);
        }
        int lower = power(CERTAIN, n);
        int shared = greatestDivisor(upper, lower);
        return (what == 0 ? upper : lower) / shared;
    }

    // ---- kinds, images

    public int rate(int kind, int g) {
        if (!court.hasGoer(g)) {
            return NO;
        }
        switch (kind) {
            case 0: return rateAsGoer(g);
            case 1: return rateAsGent(g);
            case 2: return rateAsDoctor(g);
            case 3: return rateAsSamples(g);
            case 4: return rateAsWife(g);
            case 5: return rateAsTall(g);
            default: return NO;
        }
    }

    private int rateAsGoer(int g) {
        trace += 1;
        return Integer.bitCount(court.goers[g]);
    }

    private int rateAsGent(int g) {
        trace += 10;
        return rateAsGoer(g) + now.rounds[g];
    }

    private int rateAsDoctor(int g) {
        trace += 100;
        return rateAsGoer(g) - Integer.bitCount(court.leavesThatLet(g));
    }

    private int rateAsSamples(int g) {
        trace += 1000;
        return 2 * rateAsGent(g);
    }

    private int rateAsWife(int g) {
        trace += 10000;
        return rateAsDoctor(g) + g;
    }

    private int rateAsTall(int g) {
        trace += 100000;
        return rateAsGoer(g) + now.pies;
    }

    public int keep(int image) {
        if (image < 0 || image >= IMAGES) {
            return BAD;
        }
        images[image].become(now);
        kept[image] = true;
        return now.minute;
    }

    public int back(int image) {
        if (image < 0 || image >= IMAGES) {
            return BAD;
        }
        if (!kept[image]) {
            return STATE;
        }
        now.become(images[image]);
        history.known = 0;
        return now.minute;
    }

    public int count(int what) {
        switch (what) {
            case 0: return court.leafCount;
            case 1: return court.goerCount;
            case 2: return court.sisterCount;
            case 3: return court.fridayCount;
            case 4: return court.lane;
            case 5: return seen.many;
            case 6: return text.length;
            default: return BAD;
        }
    }

    public long trace() {
        return trace;
    }

    // ---- numbers

    private static boolean isTaste(int taste) {
        return taste >= 0 && taste < TASTES;
    }

    private static boolean hasBit(int bits, int place) {
        return (bits >> place & 1) == 1;
    }

    private static int lowestBit(int bits) {
        for (int place = 0; place < 31; place++) {
            if (hasBit(bits, place)) {
                return place;
            }
        }
        return NONE;
    }

    private static int power(int base, int times) {
        int product = 1;
        for (int i = 0; i < times; i++) {
            product *= base;
        }
        return product;
    }

    private static int choices(int n, int k) {
        int ways = 1;
        for (int i = 1; i <= k; i++) {
            // i choices are in the product by now, so that this leaves no rest.
            ways = ways * (n - i + 1) / i;
        }
        return ways;
    }

    /** At least 1, so that one may divide by it. */
    private static int greatestDivisor(int a, int b) {
        int greater = a;
        int rest = b;
        // Euclid's way halves the numbers every two steps: 64 are enough for any int.
        for (int i = 0; i < 64 && rest != 0; i++) {
            int next = greater % rest;
            greater = rest;
            rest = next;
        }
        return Math.max(1, greater);
    }

    /** All that a text tells. */
    private static final class Court {
        final int[] leaves = new int[MOST_LEAVES];
        final int[] goers = new int[MOST_GOERS];
        final int[] tales = new int[MOST_SISTERS * TASTES];
        final int[] divisors = new int[MOST_FRIDAYS];
        final int[] rests = new int[MOST_FRIDAYS];
        int leafCount = 0;
        int goerCount = 0;
        int sisterCount = 0;
        int fridayCount = 0;
        int lane = FIRST_LANE;

        void startAnew() {
            leafCount = 0;
            goerCount = 0;
            sisterCount = 0;
            fridayCount = 0;
            lane = FIRST_LANE;
        }

        boolean hasLeaf(int l) {
            return l >= 0 && l < leafCount;
        }

        boolean hasGoer(int g) {
            return g >= 0 && g < goerCount;
        }

        boolean counts(int taste, int l) {
            return hasLeaf(l) && hasBit(leaves[l], taste);
        }

        /** The tastes by which a goer is let by on a leaf. */
        int goodTastes(int l, int g) {
            return hasLeaf(l) && hasGoer(g) ? leaves[l] & goers[g] : 0;
        }

        int goersLetBy(int l) {
            int bits = 0;
            for (int g = 0; g < goerCount; g++) {
                if (goodTastes(l, g) != 0) {
                    bits |= 1 << g;
                }
            }
            return bits;
        }

        int leavesThatLet(int g) {
            int bits = 0;
            for (int l = 0; l < leafCount; l++) {
                if (goodTastes(l, g) != 0) {
                    bits |= 1 << l;
                }
            }
            return bits;
        }

        int leafBehind(int l, int steps) {
            return leafCount == 0 ? 0 : (l + steps) % leafCount;
        }

        int cover() {
            int best = NONE;
            int fewest = leafCount + 1;
            for (int set = 0; set < 1 << leafCount; set++) {
                if (Integer.bitCount(set) < fewest && coversAll(set)) {
                    best = set;
                    fewest = Integer.bitCount(set);
                }
            }
            return best;
        }

        private boolean coversAll(int set) {
            for (int g = 0; g < goerCount; g++) {
                if ((leavesThatLet(g) & set) == 0) {
                    return false;
                }
            }
            return true;
        }

        int changed(int y, int taste) {
            return tales[y * TASTES + taste];
        }

        int passedOn(int taste, int n) {
            if (sisterCount == 0) {
                return n == 0 ? taste : NONE;
            }
            int tale = taste;
            for (int told = 0; told < n; told++) {
                tale = changed(told % sisterCount, tale);
            }
            return tale;
        }

        int dayOfAllFridays(int from) {
            int day = from;
            // The days that are of all Fridays looked at so far are a step apart.
            int step = 1;
            for (int i = 0; i < fridayCount; i++) {
                day = dayOfFriday(i, day, step);
                if (day == NONE) {
                    return NONE;
                }
                step = step / greatestDivisor(step, divisors[i]) * divisors[i];
            }
            return day;
        }

        private int dayOfFriday(int i, int from, int step) {
            int divisor = Math.max(1, divisors[i]);
            for (int tries = 0; tries < divisor; tries++) {
                int day = from + tries * step;
                if (day % divisor == rests[i]) {
                    return day;
                }
            }
            return NONE;
        }
    }

    /** What changes while goers come and say, and what an image keeps. */
    private static final class Now {
        int minute = 0;
        int leaf = 0;
        int pies = 0;
        final int[] where = new int[MOST_GOERS];
        final int[] until = new int[MOST_GOERS];
        final int[] rounds = new int[MOST_GOERS];

        void startAnew() {
            minute = 0;
            leaf = 0;
            pies = 0;
            Arrays.fill(where, AWAY);
            Arrays.fill(until, 0);
            Arrays.fill(rounds, 0);
        }

        void become(Now other) {
            minute = other.minute;
            leaf = other.leaf;
            pies = other.pies;
            System.arraycopy(other.where, 0, where, 0, MOST_GOERS);
            System.arraycopy(other.until, 0, until, 0, MOST_GOERS);
            System.arraycopy(other.rounds, 0, rounds, 0, MOST_GOERS);
        }

        int whoAre(int place) {
            int bits = 0;
            for (int g = 0; g < MOST_GOERS; g++) {
                if (where[g] == place) {
                    bits |= 1 << g;
                }
            }
            return bits;
        }

        void sendRound(int g, int lane) {
            where[g] = ROUND;
            until[g] = minute + lane;
            rounds[g]++;
        }

        void pass(int n) {
            minute += n;
            for (int g = 0; g < MOST_GOERS; g++) {
                if (where[g] == ROUND && until[g] <= minute) {
                    where[g] = GATE;
                }
            }
        }
    }

    /** What may be undone: a ring, in which the oldest is written over. */
    private static final class History {
        final Now[] befores = new Now[MOST_UNDONE];
        int known = 0;
        private int next = 0;

        History() {
            for (int i = 0; i < MOST_UNDONE; i++) {
                befores[i] = new Now();
            }
        }

        void remember(Now now) {
            befores[next].become(now);
            next = (next + 1) % MOST_UNDONE;
            known = Math.min(MOST_UNDONE, known + 1);
        }

        void recall(Now now) {
            next = (next + MOST_UNDONE - 1) % MOST_UNDONE;
            now.become(befores[next]);
            known--;
        }
    }

    /** What was seen of the unknown goer. */
    private static final class Seen {
        private final int[] tastes = new int[MOST_SEEN];
        private final int[] leaves = new int[MOST_SEEN];
        private final int[] bys = new int[MOST_SEEN];
        int many = 0;

        void add(int taste, int leaf, int by) {
            tastes[many] = taste;
            leaves[many] = leaf;
            bys[many] = by;
            many++;
        }

        boolean allows(int set, Court court) {
            for (int i = 0; i < many; i++) {
                boolean by = hasBit(set, tastes[i]) && court.counts(tastes[i], leaves[i]);
                if (by != (bys[i] == 1)) {
                    return false;
                }
            }
            return true;
        }
    }

    /** The order in which most of those at the gate are let by. */
    private static final class Line {
        // Of those who have said (bits): how many of the others can be let by at most.
        final int[] best = new int[1 << MOST_GOERS];

        void weigh(Court court, Now now) {
            int gate = now.whoAre(GATE);
            for (int said = gate; said >= 0; said--) {
                if ((said & ~gate) == 0) {
                    best[said] = mostBehind(said, gate, court, now);
                }
            }
        }

        private int mostBehind(int said, int gate, Court court, Now now) {
            int most = 0;
            for (int g = 0; g < MOST_GOERS; g++) {
                if (hasBit(gate & ~said, g)) {
                    most = Math.max(most, worth(g, said, court, now));
                }
            }
            return most;
        }

        /** How many are let by from here on, if g is the next. */
        private int worth(int g, int said, Court court, Now now) {
            int leaf = court.leafBehind(now.leaf, Integer.bitCount(said));
            int by = court.goodTastes(leaf, g) != 0 ? 1 : 0;
            return by + best[said | 1 << g];
        }

        /** The k-th in line, once it is weighed. */
        int goerAt(int k, Court court, Now now) {
            int gate = now.whoAre(GATE);
            int said = 0;
            int last = NONE;
            for (int place = 0; place <= k; place++) {
                last = lowestOfBest(said, gate, court, now);
                if (last == NONE) {
                    return NONE;
                }
                said |= 1 << last;
            }
            return last;
        }

        private int lowestOfBest(int said, int gate, Court court, Now now) {
            for (int g = 0; g < MOST_GOERS; g++) {
                if (hasBit(gate & ~said, g) && worth(g, said, court, now) == best[said]) {
                    return g;
                }
            }
            return NONE;
        }
    }

    /** The text, and how it is read, token by token. */
    private static final class Text {
        final int[] letters = new int[MOST_LETTERS];
        int length = 0;
        private int kind = END;
        private int start = 0;
        private int end = 0;
        private boolean laneTold = false;

        /** How many items there are; -10 less the fault, if there is one. */
        int readInto(Court court) {
            court.startAnew();
            laneTold = false;
            end = 0;
            step();
            int items = 0;
            while (kind != END && items < MOST_LETTERS) {
                if (!readItem(court)) {
                    // The token at hand is the one that can't stand there; END starts at the length.
                    return FAULT_AT_0 - start;
                }
                items++;
            }
            return items;
        }

        private boolean readItem(Court court) {
            if (kind != WORD || end - start != 1) {
                return false;
            }
            boolean read;
            switch (letters[start]) {
                case 'v': read = readLeaf(court); break;
                case 'g': read = readGoer(court); break;
                case 'y': read = readSister(court); break;
                case 'k': read = readFriday(court); break;
                case 'n': read = readLane(court); break;
                default: read = false; break;
            }
            if (!read || kind != SEMICOLON) {
                return false;
            }
            step();
            return true;
        }

        private boolean readLeaf(Court court) {
            if (!readTastes(court.leaves, court.leafCount)) {
                return false;
            }
            court.leafCount++;
            return true;
        }

        private boolean readGoer(Court court) {
            if (!readTastes(court.goers, court.goerCount)) {
                return false;
            }
            court.goerCount++;
            return true;
        }

        private boolean readTastes(int[] rows, int place) {
            if (place >= rows.length) {
                return false;
            }
            step();
            if (!isRow(1)) {
                return false;
            }
            rows[place] = rowBits();
            step();
            return true;
        }

        private boolean readSister(Court court) {
            if (court.sisterCount >= MOST_SISTERS) {
                return false;
            }
            step();
            if (!isRow(TASTES)) {
                return false;
            }
            for (int taste = 0; taste < TASTES; taste++) {
                court.tales[court.sisterCount * TASTES + taste] = letters[start + taste] - 'a';
            }
            court.sisterCount++;
            step();
            return true;
        }

        private boolean readFriday(Court court) {
            if (court.fridayCount >= MOST_FRIDAYS) {
                return false;
            }
            step();
            if (!isNumber(2, MOST_DIVISOR)) {
                return false;
            }
            int divisor = number();
            step();
            if (!isNumber(0, divisor - 1)) {
                return false;
            }
            court.divisors[court.fridayCount] = divisor;
            court.rests[court.fridayCount] = number();
            court.fridayCount++;
            step();
            return true;
        }

        private boolean readLane(Court court) {
            if (laneTold) {
                return false;
            }
            step();
            if (!isNumber(1, LONGEST_LANE)) {
                return false;
            }
            court.lane = number();
            laneTold = true;
            step();
            return true;
        }

        private boolean isRow(int least) {
            int size = end - start;
            if (kind != WORD || size < least || size > TASTES) {
                return false;
            }
            for (int i = start; i < end; i++) {
                if (!isTaste(letters[i] - 'a')) {
                    return false;
                }
            }
            return true;
        }

        private int rowBits() {
            int bits = 0;
            for (int i = start; i < end; i++) {
                bits |= 1 << letters[i] - 'a';
            }
            return bits;
        }

        private boolean isNumber(int least, int most) {
            return kind == NUMBER && number() >= least && number() <= most;
        }

        private int number() {
            int value = 0;
            for (int i = start; i < end; i++) {
                value = value * 10 + letters[i] - '0';
            }
            return value;
        }

        /** Goes to the next token. */
        private void step() {
            start = end;
            while (start < length && letters[start] == ' ') {
                start++;
            }
            end = start;
            if (start >= length) {
                kind = END;
            } else if (isLetter(start)) {
                takeWord();
            } else if (isDigit(start)) {
                takeNumber();
            } else {
                end++;
                kind = letters[start] == ';' ? SEMICOLON : WRONG;
            }
        }

        private void takeWord() {
            while (end < length && isLetter(end)) {
                end++;
            }
            kind = WORD;
        }

        private void takeNumber() {
            while (end < length && isDigit(end)) {
                end++;
            }
            boolean zeroAhead = letters[start] == '0' && end - start > 1;
            // Without a 0 ahead, three digits are above 99.
            kind = zeroAhead || end - start > 2 ? WRONG : NUMBER;
        }

        private boolean isLetter(int place) {
            return letters[place] >= 'a' && letters[place] <= 'z';
        }

        private boolean isDigit(int place) {
            return letters[place] >= '0' && letters[place] <= '9';
        }
    }
}
