/** A shop that gives on the slate till Friday; ../shared/DOC.md tells what every call promises. */
public final class SlateShop {
    public static final int NONE = -1000000, BAD = -1000001, STATE = -1000002, FULL = -1000003;

    private static final int FAULTY = -1000100;
    private static final int MOST_WEEKS = 24, LAST_WEEK = 999, FARTHEST = 60, LONGEST_STRIKE = 20;
    private static final int HIGHEST_STOP = 99, DEAREST = 20, MOST_TOLD = 12, LAST_SEED = 999999;
    private static final int MOST_IMAGES = 2;

    private final Rows rows;
    private final Tape tape;
    private final Book book;
    private final Book spare;
    private final Acts acts;
    private final Foretold foretold;
    private final Asks asks;
    private final Book[] images;
    private int latestFault;

    public SlateShop() {
        rows = new Rows();
        tape = new Tape();
        book = new Book();
        spare = new Book();
        acts = new Acts();
        foretold = new Foretold(book, spare);
        asks = new Asks(book);
        images = new Book[] {new Book(), new Book()};
        latestFault = 0;
    }

    // ---- rows

    public int row(int row, int lane, int n) {
        if (!Rows.isRow(row) || !within(lane, 0, Rows.INTS) || n > Rows.MOST_ITEMS) {
            return BAD;
        }
        return rows.make(row, lane, n);
    }

    public int set(int row, int i, int v) {
        if (!Rows.isRow(row)) {
            return BAD;
        }
        return rows.put(row, i, v);
    }

    public int copy(int a, int i, int b, int j, int n) {
        if (!Rows.isRow(a) || !Rows.isRow(b)) {
            return BAD;
        }
        return rows.carry(a, i, b, j, n);
    }

    public int drop(int row) {
        if (!Rows.isRow(row)) {
            return BAD;
        }
        return rows.lose(row);
    }

    // ---- what is told

    public int feed(int letter) {
        if (!within(letter, 0, 255)) {
            return BAD;
        }
        return tape.add(letter);
    }

    public int shop() {
        int wrong = tape.read(spare);
        int place = tape.place;
        tape.empty();
        if (wrong != 0) {
            latestFault = wrong;
            return FAULTY - place;
        }
        book.becomes(spare);
        acts.forget();
        return book.sums[Book.COUNT];
    }

    public int fault() {
        return latestFault;
    }

    public int undo() {
        if (acts.kept == 0) {
            return STATE;
        }
        return acts.takeBack(book);
    }

    // ---- what is done

    public int weeks(int n) {
        if (!book.isThere()) {
            return STATE;
        }
        if (!within(n, 1, MOST_WEEKS)) {
            return BAD;
        }
        if (book.sums[Book.WEEK] + n > LAST_WEEK) {
            return FULL;
        }
        for (int i = 0; i < n; i++) {
            acts.keep(book);
            book.passWeek();
        }
        return book.sums[Book.CASH];
    }

    public int stop(int debtor, int sum) {
        if (!book.has(debtor) || !within(sum, 0, HIGHEST_STOP)) {
            return BAD;
        }
        return change(Book.STOP + debtor, sum);
    }

    public int strike(int n) {
        if (!book.isThere()) {
            return STATE;
        }
        if (!within(n, 0, LONGEST_STRIKE)) {
            return BAD;
        }
        return change(Book.STRIKE, n);
    }

    public int cross(int debtor, int on) {
        if (!book.has(debtor) || !within(on, 0, 1)) {
            return BAD;
        }
        if (book.sums[Book.CROSSED + debtor] == on) {
            return STATE;
        }
        change(Book.CROSSED + debtor, on);
        if (on == 0) {
            book.sums[Book.DEBT + debtor] = 0;
        }
        return book.lost();
    }

    public int dearer(int n) {
        if (!book.isThere()) {
            return STATE;
        }
        if (!within(n, 0, DEAREST)) {
            return BAD;
        }
        return change(Book.DEARER, n);
    }

    public int debtor(int debtor, int what) {
        if (!book.has(debtor) || !within(what, 0, 7)) {
            return BAD;
        }
        // The book's columns stand in the order in which this call numbers them.
        return book.sums[what * Book.MOST + debtor];
    }

    public int shopHas(int what) {
        if (!book.isThere()) {
            return STATE;
        }
        if (!within(what, 0, 5)) {
            return BAD;
        }
        if (what == 4) {
            return book.allDebts();
        }
        if (what == 5) {
            return book.lost();
        }
        // Behind the columns come the shop's own sums, in the order of this call.
        return book.sums[Book.CASH + what];
    }

    // ---- foretold

    public int ahead(int n, int what) {
        if (!book.isThere()) {
            return STATE;
        }
        if (!within(n, 0, FARTHEST) || !within(what, 0, 2)) {
            return BAD;
        }
        foretold.look(n);
        return what == 2 ? spare.allDebts() : spare.sums[Book.CASH + what];
    }

    public int debt(int debtor, int n) {
        if (!book.has(debtor) || !within(n, 0, FARTHEST)) {
            return BAD;
        }
        foretold.look(n);
        return spare.sums[Book.DEBT + debtor];
    }

    public int shuts() {
        if (!book.isThere()) {
            return STATE;
        }
        return foretold.weeksUntilShut(FARTHEST);
    }

    public int bestStop(int debtor, int n, int what) {
        if (!book.has(debtor) || !within(n, 1, FARTHEST) || !within(what, 0, 1)) {
            return BAD;
        }
        return foretold.stopForShop(debtor, n, what);
    }

    public int whom(int n, int what) {
        if (!book.isThere()) {
            return STATE;
        }
        if (!within(n, 1, FARTHEST) || !within(what, 0, 1)) {
            return BAD;
        }
        return foretold.bestSet(n, what);
    }

    public int stands() {
        if (!book.isThere()) {
            return STATE;
        }
        return foretold.longestStrike();
    }

    public int dear(int n) {
        if (!book.isThere()) {
            return STATE;
        }
        if (!within(n, 1, FARTHEST)) {
            return BAD;
        }
        return foretold.leastDearer(n);
    }

    public int rogue(int debtor, int n, int what) {
        if (!book.has(debtor) || !within(n, 1, FARTHEST) || !within(what, 0, 1)) {
            return BAD;
        }
        if (!book.comes(debtor)) {
            return STATE;
        }
        return foretold.stopForRogue(debtor, n, what);
    }

    public int who(int debtor, int row, int i, int n) {
        if (!book.has(debtor) || !Rows.isRow(row) || !within(n, 1, MOST_TOLD)) {
            return BAD;
        }
        int wrong = rows.look(row, i, n);
        return wrong != 0 ? wrong : foretold.kindsThatPay(debtor, rows.items[row], i, n);
    }

    public int atDoor(int k) {
        if (!book.isThere()) {
            return STATE;
        }
        if (!within(k, 0, Book.MOST - 1)) {
            return BAD;
        }
        return book.owingMost(k);
    }

    public long pays(int p, int k, int what) {
        if (!book.isThere()) {
            return STATE;
        }
        int coming = book.howManyCome();
        if (!within(p, 0, Chance.CASES) || !within(k, 0, coming) || !within(what, 0, 1)) {
            return BAD;
        }
        return Chance.atLeast(k, coming, p, what);
    }

    public int drawn(int n, int seed, int what) {
        if (!book.isThere()) {
            return STATE;
        }
        if (!within(n, 0, FARTHEST) || !within(seed, 1, LAST_SEED) || !within(what, 0, 1)) {
            return BAD;
        }
        int idle = foretold.idleWeeks(n, seed);
        return what == 0 ? spare.sums[Book.CASH] : idle;
    }

    public int image(int k) {
        if (!within(k, 0, MOST_IMAGES - 1)) {
            return BAD;
        }
        if (!book.isThere()) {
            return STATE;
        }
        images[k].becomes(book);
        return 1;
    }

    public int restore(int k) {
        if (!within(k, 0, MOST_IMAGES - 1)) {
            return BAD;
        }
        if (!images[k].isThere()) {
            return STATE;
        }
        book.becomes(images[k]);
        acts.forget();
        return 1;
    }

    // ---- asked

    public int kind(int one) {
        return book.has(one) ? book.sums[Book.KIND + one] : BAD;
    }

    public int as(int one, int kind) {
        if (!book.has(one) || !within(kind, 0, Book.ROGUE)) {
            return BAD;
        }
        if (!Book.isKind(book.sums[Book.KIND + one], kind)) {
            return rows.find(Rows.KIND);
        }
        rows.found = 0;
        return one;
    }

    public int ask(int one, int what) {
        if (!book.has(one) || !within(what, 0, 1)) {
            return BAD;
        }
        asks.traced = 0;
        return what == 0 ? asks.sizeOf(one) : asks.markOf(one);
    }

    public int trace(int i) {
        return within(i, 0, asks.traced - 1) ? asks.begun[i] : NONE;
    }

    public int count(int what) {
        switch (what) {
            case 0: return rows.present();
            case 1: return book.sums[Book.COUNT];
            case 2: return book.sums[Book.DEARER];
            case 3: return book.sums[Book.EVERY];
            case 4: return book.sums[Book.WEEK];
            case 5: return book.bits(Book.CROSSED);
            case 6: return book.bits(Book.GONE);
            case 7: return acts.kept;
            case 8: return tape.length;
            default: return BAD;
        }
    }

    public int status() {
        return rows.found;
    }

    private static boolean within(int value, int least, int most) {
        return value >= least && value <= most;
    }

    /** An act that puts one sum in place of another: what it was. */
    private int change(int place, int sum) {
        int before = book.sums[place];
        acts.keep(book);
        book.sums[place] = sum;
        return before;
    }

    /** The rows, and what the latest call with one of them found. */
    private static final class Rows {
        static final int MOST = 8, MOST_ITEMS = 40;
        static final int BYTES = 0, SHORTS = 1, INTS = 2;
        static final int NULL = 1, PLACE = 2, KIND = 3, SIZE = 4, STORE = 5;
        static final int MISSING = -1, FINDING = -1000010;

        final int[][] items;
        private final int[] lanes;
        private final int[] sizes;
        int found;

        Rows() {
            items = new int[MOST][MOST_ITEMS];
            lanes = new int[MOST];
            sizes = new int[MOST];
            for (int row = 0; row < MOST; row++) {
                sizes[row] = MISSING;
            }
            found = 0;
        }

        static boolean isRow(int row) {
            return row >= 0 && row < MOST;
        }

        int find(int number) {
            found = number;
            return FINDING - number;
        }

        int make(int row, int lane, int n) {
            if (n < 0) {
                return find(SIZE);
            }
            for (int i = 0; i < MOST_ITEMS; i++) {
                items[row][i] = 0;
            }
            lanes[row] = lane;
            sizes[row] = n;
            found = 0;
            return n;
        }

        int put(int row, int i, int v) {
            int wrong = look(row, i, 1);
            if (wrong != 0) {
                return wrong;
            }
            items[row][i] = narrowed(v, lanes[row]);
            return items[row][i];
        }

        int carry(int a, int i, int b, int j, int n) {
            if (sizes[a] == MISSING || sizes[b] == MISSING) {
                return find(NULL);
            }
            if (lanes[a] != lanes[b]) {
                return find(STORE);
            }
            if (!fits(a, i, n) || !fits(b, j, n)) {
                return find(PLACE);
            }
            System.arraycopy(items[a], i, items[b], j, n);
            found = 0;
            return n;
        }

        int lose(int row) {
            if (sizes[row] == MISSING) {
                return find(NULL);
            }
            int had = sizes[row];
            sizes[row] = MISSING;
            found = 0;
            return had;
        }

        /** The finding when n items of a row from i on are wanted; 0: they are there. */
        int look(int row, int i, int n) {
            if (sizes[row] == MISSING) {
                return find(NULL);
            }
            if (!fits(row, i, n)) {
                return find(PLACE);
            }
            found = 0;
            return 0;
        }

        int present() {
            int there = 0;
            for (int row = 0; row < MOST; row++) {
                if (sizes[row] != MISSING) {
                    there++;
                }
            }
            return there;
        }

        private boolean fits(int row, int i, int n) {
            // i + n could wrap around; a size less n (0 or more) can't.
            return i >= 0 && n >= 0 && i <= sizes[row] - n;
        }

        private static int narrowed(int v, int lane) {
            if (lane == BYTES) {
                return (byte) v;
            }
            return lane == SHORTS ? (short) v : v;
        }
    }

    /** The tape, and its reading: the law and each debtor are a letter and three numbers with signs. */
    private static final class Tape {
        static final int MOST = 120;
        static final int OUT_OF_PLACE = 1, NOT_AS_TOLD = 2, NO_ROOM = 3;
        private static final int STEPS = 7, LAST_FIGURES = 2;

        private final int[] letters;
        int length;
        int place;
        private int step;
        private int part;

        Tape() {
            letters = new int[MOST];
            length = 0;
            place = 0;
            step = 0;
            part = 0;
        }

        int add(int letter) {
            if (length >= MOST) {
                return FULL;
            }
            letters[length] = letter;
            length++;
            return length;
        }

        void empty() {
            length = 0;
        }

        /** The fault's number, its place in place; 0: there is none, and the book holds the shop. */
        int read(Book into) {
            into.clear();
            place = 0;
            step = 0;
            part = 0;
            // Each token has a byte at least.
            for (int tokens = 0; tokens < MOST && place < length; tokens++) {
                int wrong = readToken(into);
                if (wrong != 0) {
                    return wrong;
                }
                step++;
                if (step == STEPS) {
                    step = 0;
                    part++;
                }
            }
            return step == 0 && part >= 2 ? 0 : OUT_OF_PLACE;
        }

        private int readToken(Book into) {
            if (step == 0) {
                return readLetter(into);
            }
            if (step % 2 == 1) {
                return readNumber(into);
            }
            return readSign(step == STEPS - 1 ? ';' : ',');
        }

        private int readSign(char sign) {
            if (letters[place] != sign) {
                return OUT_OF_PLACE;
            }
            place++;
            return 0;
        }

        private int readLetter(Book into) {
            if (part == 0) {
                return readSign('f');
            }
            int kind = kindOf(letters[place]);
            if (kind == 0) {
                return OUT_OF_PLACE;
            }
            int one = part - 1;
            if (one >= Book.MOST) {
                return NO_ROOM;
            }
            into.sums[Book.KIND + one] = kind;
            into.sums[Book.COUNT] = part;
            place++;
            return 0;
        }

        private static int kindOf(int letter) {
            switch (letter) {
                case 's': return Book.STEADY;
                case 'r': return Book.ROLLING;
                case 'h': return Book.HAY;
                case 't': return Book.TWICE;
                case 'g': return Book.ROGUE;
                default: return 0;
            }
        }

        private int readNumber(Book into) {
            int value = 0;
            int end = place;
            while (end < length && isFigure(letters[end])) {
                value = value * 10 + letters[end] - '0';
                end++;
            }
            int figures = end - place;
            // The figures are counted before the value is looked at: a long run may have wrapped around.
            if (figures == 0 || figures > LAST_FIGURES) {
                return OUT_OF_PLACE;
            }
            if (value < leastTold() || value > mostTold()) {
                return NOT_AS_TOLD;
            }
            into.sums[placeTold()] = value;
            place = end;
            return 0;
        }

        private static boolean isFigure(int letter) {
            return letter >= '0' && letter <= '9';
        }

        private int leastTold() {
            return part == 0 && step == 5 ? 1 : 0;
        }

        private int mostTold() {
            if (part == 0) {
                return step == 1 ? 99 : step == 3 ? 20 : 8;
            }
            return step == 1 ? 60 : step == 3 ? 40 : 99;
        }

        private int placeTold() {
            if (part == 0) {
                return step == 1 ? Book.CASH : step == 3 ? Book.DEARER : Book.EVERY;
            }
            int column = step == 1 ? Book.WAGE : step == 3 ? Book.WANTS : Book.STOP;
            return column + part - 1;
        }
    }

    /** A shop as it is at one time, all in one array, so that an act, an image, a look ahead is one copy. */
    private static final class Book {
        static final int MOST = 6;
        static final int STEADY = 1, ROLLING = 2, HAY = 3, TWICE = 4, ROGUE = 5;
        static final int DEBT = 0, WAGE = 6, WANTS = 12, STOP = 18, GONE = 24;
        static final int CROSSED = 30, PAID = 36, TOOK = 42, KIND = 48;
        static final int CASH = 54, OWED = 55, STRIKE = 56, SHUT = 57;
        static final int COUNT = 58, DEARER = 59, EVERY = 60, WEEK = 61, LENGTH = 62;

        final int[] sums;

        Book() {
            sums = new int[LENGTH];
        }

        void clear() {
            for (int i = 0; i < LENGTH; i++) {
                sums[i] = 0;
            }
        }

        void becomes(Book other) {
            System.arraycopy(other.sums, 0, sums, 0, LENGTH);
        }

        /** A shop that was read has one debtor at least. */
        boolean isThere() {
            return sums[COUNT] > 0;
        }

        boolean has(int one) {
            return one >= 0 && one < MOST && one < sums[COUNT];
        }

        boolean comes(int one) {
            return has(one) && sums[CROSSED + one] == 0 && sums[GONE + one] == 0;
        }

        static boolean isKind(int kind, int wanted) {
            int nearest = nearestKind(kind);
            return kind == wanted || nearest == wanted || nearestKind(nearest) == wanted;
        }

        private static int nearestKind(int kind) {
            switch (kind) {
                case ROLLING:
                case HAY: return STEADY;
                case ROGUE: return TWICE;
                default: return 0;
            }
        }

        /** What all debtors pay in it. */
        int passWeek() {
            if (sums[SHUT] == 0) {
                takeAll();
            }
            int paid = 0;
            if (sums[STRIKE] > 0) {
                sums[STRIKE]--;
            } else {
                paid = payAll();
            }
            sums[WEEK]++;
            if (sums[EVERY] > 0 && sums[WEEK] % sums[EVERY] == 0) {
                sums[CASH] -= sums[OWED];
                sums[OWED] = 0;
            }
            if (sums[CASH] < 0) {
                sums[SHUT] = 1;
            }
            return paid;
        }

        private void takeAll() {
            for (int one = 0; one < MOST; one++) {
                if (comes(one)) {
                    take(one);
                }
            }
        }

        private void take(int one) {
            int room = Math.max(0, sums[STOP + one] - sums[DEBT + one]);
            int taken = Math.min(sums[WANTS + one], room);
            sums[DEBT + one] += taken + taken * sums[DEARER] / 20;
            sums[TOOK + one] += taken;
            sums[OWED] += taken;
        }

        private int payAll() {
            int paid = 0;
            for (int one = 0; one < MOST; one++) {
                if (!comes(one)) {
                    continue;
                }
                if (makesOff(one)) {
                    sums[GONE + one] = 1;
                } else {
                    paid += pay(one);
                }
            }
            return paid;
        }

        private boolean makesOff(int one) {
            int owing = sums[DEBT + one];
            return sums[KIND + one] == ROGUE && owing > 0 && owing >= sums[STOP + one];
        }

        private int pay(int one) {
            int owing = sums[DEBT + one];
            int due = sums[KIND + one] == ROLLING ? owing / 2 : owing;
            int paid = Math.min(spared(sums[KIND + one], sums[WAGE + one]), due);
            sums[DEBT + one] -= paid;
            sums[PAID + one] += paid;
            sums[CASH] += paid;
            return paid;
        }

        /** What of the wage can go to the shop this week. */
        private int spared(int kind, int wage) {
            switch (kind) {
                case HAY: return sums[WEEK] % 4 == 3 ? wage : 0;
                case TWICE:
                case ROGUE: return wage / 2;
                default: return wage;
            }
        }

        /** Cash less what is owed to the wholesaler. */
        int worth() {
            return sums[CASH] - sums[OWED];
        }

        int allDebts() {
            int all = 0;
            for (int one = 0; one < MOST; one++) {
                if (sums[CROSSED + one] == 0) {
                    all += sums[DEBT + one];
                }
            }
            return all;
        }

        /** The debt of one who is crossed out stays as it was then: he takes and pays nothing. */
        int lost() {
            int all = 0;
            for (int one = 0; one < MOST; one++) {
                if (has(one) && !comes(one)) {
                    all += sums[DEBT + one];
                }
            }
            return all;
        }

        int bits(int column) {
            int set = 0;
            for (int one = 0; one < MOST; one++) {
                if (sums[column + one] != 0) {
                    set |= 1 << one;
                }
            }
            return set;
        }

        int howManyCome() {
            int coming = 0;
            for (int one = 0; one < MOST; one++) {
                if (comes(one)) {
                    coming++;
                }
            }
            return coming;
        }

        /** The debtor with k others ahead of him at the door. */
        int owingMost(int k) {
            for (int one = 0; one < MOST; one++) {
                if (comes(one) && aheadOf(one) == k) {
                    return one;
                }
            }
            return NONE;
        }

        private int aheadOf(int one) {
            int before = 0;
            for (int other = 0; other < MOST; other++) {
                int more = sums[DEBT + other] - sums[DEBT + one];
                if (comes(other) && (more > 0 || more == 0 && other < one)) {
                    before++;
                }
            }
            return before;
        }
    }

    /** The acts that can be undone: a ring of the books as they were ahead of each. */
    private static final class Acts {
        static final int MOST = 24;

        private final int[][] before;
        private int next;
        int kept;

        Acts() {
            before = new int[MOST][Book.LENGTH];
            next = 0;
            kept = 0;
        }

        void forget() {
            kept = 0;
        }

        void keep(Book book) {
            System.arraycopy(book.sums, 0, before[next], 0, Book.LENGTH);
            next = (next + 1) % MOST;
            kept = Math.min(kept + 1, MOST);
        }

        int takeBack(Book book) {
            next = (next + MOST - 1) % MOST;
            System.arraycopy(before[next], 0, book.sums, 0, Book.LENGTH);
            kept--;
            return kept;
        }
    }

    /** What would be: every look ahead goes on in a second book, the first one stays. */
    private static final class Foretold {
        private static final int STRIKE_WEEKS = 40;
        private static final int DRAW_FACTOR = 16807, DRAW_MODULUS = 2147483647;

        private final Book now;
        private final Book then;

        Foretold(Book now, Book then) {
            this.now = now;
            this.then = then;
        }

        void look(int n) {
            then.becomes(now);
            pass(n);
        }

        private void pass(int n) {
            for (int i = 0; i < n; i++) {
                then.passWeek();
            }
        }

        int weeksUntilShut(int most) {
            then.becomes(now);
            for (int gone = 0; gone <= most; gone++) {
                if (then.sums[Book.SHUT] == 1) {
                    return gone;
                }
                then.passWeek();
            }
            return NONE;
        }

        int stopForShop(int one, int n, int what) {
            int best = 0;
            int most = 0;
            for (int sum = 0; sum <= HIGHEST_STOP; sum++) {
                then.becomes(now);
                then.sums[Book.STOP + one] = sum;
                pass(n);
                int worth = then.worth();
                if (sum == 0 || worth > most) {
                    best = sum;
                    most = worth;
                }
            }
            return what == 0 ? best : most;
        }

        int stopForRogue(int one, int n, int what) {
            int best = 0;
            int most = 0;
            for (int sum = 0; sum <= HIGHEST_STOP; sum++) {
                then.becomes(now);
                then.sums[Book.KIND + one] = Book.ROGUE;
                then.sums[Book.STOP + one] = sum;
                pass(n);
                int gain = grown(Book.TOOK + one) - grown(Book.PAID + one);
                if (sum == 0 || gain > most) {
                    best = sum;
                    most = gain;
                }
            }
            return what == 0 ? best : most;
        }

        private int grown(int place) {
            return then.sums[place] - now.sums[place];
        }

        int bestSet(int n, int what) {
            int sets = 1 << now.sums[Book.COUNT];
            int best = NONE;
            int most = 0;
            for (int set = 0; set < sets; set++) {
                giveOnlyTo(set, n);
                if (then.sums[Book.SHUT] == 1) {
                    continue;
                }
                int worth = then.worth();
                boolean fewer = Integer.bitCount(set) < Integer.bitCount(best);
                if (best == NONE || worth > most || worth == most && fewer) {
                    best = set;
                    most = worth;
                }
            }
            return best == NONE || what == 0 ? best : most;
        }

        private void giveOnlyTo(int set, int n) {
            then.becomes(now);
            for (int one = 0; one < Book.MOST; one++) {
                if ((set >> one & 1) == 0) {
                    then.sums[Book.STOP + one] = 0;
                }
            }
            pass(n);
        }

        int longestStrike() {
            for (int strike = LONGEST_STRIKE; strike >= 0; strike--) {
                if (lasts(Book.STRIKE, strike, STRIKE_WEEKS)) {
                    return strike;
                }
            }
            return NONE;
        }

        int leastDearer(int n) {
            for (int dearer = 0; dearer <= DEAREST; dearer++) {
                if (lasts(Book.DEARER, dearer, n)) {
                    return dearer;
                }
            }
            return NONE;
        }

        /** Whether the shop is not shut in n weeks with another sum at a place. */
        private boolean lasts(int place, int sum, int n) {
            then.becomes(now);
            then.sums[place] = sum;
            pass(n);
            return then.sums[Book.SHUT] == 0;
        }

        int kindsThatPay(int one, int[] told, int from, int n) {
            int kinds = 0;
            for (int kind = Book.STEADY; kind <= Book.ROGUE; kind++) {
                then.becomes(now);
                then.sums[Book.KIND + one] = kind;
                if (paysAsTold(one, told, from, n)) {
                    kinds |= 1 << kind;
                }
            }
            return kinds;
        }

        private boolean paysAsTold(int one, int[] told, int from, int n) {
            for (int i = 0; i < n; i++) {
                int before = then.sums[Book.PAID + one];
                then.passWeek();
                if (then.sums[Book.PAID + one] - before != told[from + i]) {
                    return false;
                }
            }
            return true;
        }

        int idleWeeks(int n, int seed) {
            then.becomes(now);
            long x = seed;
            int idle = 0;
            for (int i = 0; i < n; i++) {
                x = x * DRAW_FACTOR % DRAW_MODULUS;
                if (x % 10 == 0 && then.sums[Book.STRIKE] == 0) {
                    then.sums[Book.STRIKE] = (int) (x % 5) + 1;
                }
                if (then.passWeek() == 0) {
                    idle++;
                }
            }
            return idle;
        }
    }

    /** How likely so many pay, each by himself in p of ten cases. */
    private static final class Chance {
        static final int CASES = 10;
        private static final int MOST_DIVISIONS = 100;

        static long atLeast(int k, int of, int p, int what) {
            long above = 0;
            for (int j = k; j <= of; j++) {
                above += choices(j, of) * power(p, j) * power(CASES - p, of - j);
            }
            long below = power(CASES, of);
            long common = commonDivisor(above, below);
            if (common == 0) {
                return BAD;
            }
            return what == 0 ? above / common : below / common;
        }

        private static long choices(int j, int of) {
            long all = 1;
            for (int i = 1; i <= j; i++) {
                all = all * (of - j + i) / i;
            }
            return all;
        }

        private static long power(int base, int exponent) {
            long all = 1;
            for (int i = 0; i < exponent; i++) {
                all *= base;
            }
            return all;
        }

        private static long commonDivisor(long a, long b) {
            for (int i = 0; i < MOST_DIVISIONS && b != 0; i++) {
                long rest = a % b;
                a = b;
                b = rest;
            }
            return a;
        }
    }

    /** The bodies of the asks, each told by its number, and the trace that they leave. */
    private static final class Asks {
        static final int MOST = 16;

        final int[] begun;
        int traced;
        private final Book book;

        Asks(Book book) {
            this.book = book;
            begun = new int[MOST];
            traced = 0;
        }

        int sizeOf(int one) {
            switch (book.sums[Book.KIND + one]) {
                case Book.STEADY:
                case Book.HAY: return size11(one);
                case Book.ROLLING: return size12(one);
                case Book.TWICE:
                case Book.ROGUE: return sizeOfTwice(one);
                default: return size10(one);
            }
        }

        int markOf(int one) {
            switch (book.sums[Book.KIND + one]) {
                case Book.STEADY:
                case Book.HAY:
                case Book.ROLLING: return markOfSteady(one);
                case Book.TWICE:
                case Book.ROGUE: return mark23(one);
                default: return mark20(one);
            }
        }

        // Steady ones ask their mark within their size, those who owe twice their size within their mark:
        // with a dispatch for each of these two no ask can come back to itself.
        private int markOfSteady(int one) {
            switch (book.sums[Book.KIND + one]) {
                case Book.HAY: return mark22(one);
                case Book.ROLLING: return mark24(one);
                default: return mark21(one);
            }
        }

        private int sizeOfTwice(int one) {
            return book.sums[Book.KIND + one] == Book.ROGUE ? size14(one) : size13(one);
        }

        private void begin(int body) {
            if (traced < MOST) {
                begun[traced] = body;
                traced++;
            }
        }

        private int size10(int one) {
            begin(10);
            return book.sums[Book.DEBT + one];
        }

        private int size11(int one) {
            begin(11);
            int lent = size10(one);
            return lent + markOfSteady(one);
        }

        private int size12(int one) {
            begin(12);
            return -size11(one);
        }

        private int size13(int one) {
            begin(13);
            return size10(one) - 100;
        }

        private int size14(int one) {
            begin(14);
            return 2 * size13(one);
        }

        private int mark20(int one) {
            begin(20);
            return one;
        }

        private int mark21(int one) {
            begin(21);
            // Body 20 stands here itself: one call more would be the ninth that is open.
            begin(20);
            return one + book.sums[Book.WAGE + one];
        }

        private int mark22(int one) {
            begin(22);
            return mark21(one) - 1000;
        }

        private int mark23(int one) {
            begin(23);
            int lent = mark20(one);
            return lent - sizeOfTwice(one);
        }

        private int mark24(int one) {
            begin(24);
            return 2 * mark21(one);
        }
    }
}
