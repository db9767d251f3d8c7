/** A house with a board of hooks: who is out, where the keys hang, and how sure one may be of it. */
public final class IsHeIn {
    public static final int NONE = -1;

    private static final int NO_SUCH = NONE - 1;
    private static final int THOUSAND = 1000;
    private static final int MILLION = 1000000;
    private static final int HALF = 500000;

    private static final int CLOCKS = 24;
    private static final int LAST_HOUR = 9999;
    private static final int MOST_HOURS = 60;
    private static final int MOST_SINCE = 999;
    private static final int FLOORS = 4;
    private static final int DOORS = 2;
    private static final int CLERKS = 4;
    private static final int MOST_AGE = 99;
    private static final int MOST_PEAR = 20;
    private static final int MOST_RAIN = 9;
    private static final int MOST_GUESTS = 12;
    private static final int MOST_SIGNS = 6;
    private static final int MOST_SHIFTS = 12;
    private static final int MOST_LAWS = 16;
    private static final int MOST_ROOMS = 8;
    private static final int MOST_CALLERS = 8;
    private static final int MOST_BOOK = 150;
    private static final int MOST_STEPS = 6;
    private static final int MOST_BYTES = 400;
    private static final int MOST_OPEN = 8;
    private static final int MOST_AWAY = 48;
    private static final int MOST_FIRE = 99;
    private static final int WRONG_WORD = 9999;
    private static final int PRICE = 999;

    private static final int LAW_TEXT = 0;
    private static final int SIGN_TEXT = 1;
    private static final int SHIFT_TEXT = 2;

    // Columns of the guests' table; what was seen of each sign stands behind SEEN.
    private static final int FLOOR = 0;
    private static final int AGE = 1;
    private static final int OUT = 2;
    private static final int KEY = 3;
    private static final int SINCE = 4;
    private static final int SEEN = 5;
    private static final int GUEST_WIDTH = SEEN + MOST_SIGNS;

    // Columns of the book, and what a line of it may tell.
    private static final int BOOK_HOUR = 0;
    private static final int BOOK_WHAT = 1;
    private static final int BOOK_GUEST = 2;
    private static final int BOOK_DOOR = 3;
    private static final int BOOK_CLERK = 4;
    private static final int BOOK_WIDTH = 5;
    private static final int WENT = 0;
    private static final int CAME = 1;
    private static final int BY_HAND = 2;

    // Columns of the other tables.
    private static final int SIGN_IN = 0;
    private static final int SIGN_OUT = 1;
    private static final int SIGN_WIDTH = 2;
    private static final int SHIFT_CLERK = 0;
    private static final int SHIFT_FROM = 1;
    private static final int SHIFT_LONG = 2;
    private static final int SHIFT_DOOR = 3;
    private static final int SHIFT_WIDTH = 4;
    private static final int ROOM_GUEST = 0;
    private static final int ROOM_MINUTES = 1;
    private static final int ROOM_WHEN = 2;
    private static final int ROOM_WORTH = 3;
    private static final int ROOM_WIDTH = 4;
    private static final int CALLER_GUEST = 0;
    private static final int CALLER_IN = 1;
    private static final int CALLER_OUT = 2;
    private static final int CALLER_WIDTH = 3;
    private static final int LINE_WORD = 0;
    private static final int LINE_FROM = 1;
    private static final int LINE_WHEN = 2;
    private static final int LINE_TO = 3;
    private static final int LINE_WIDTH = 4;

    // The words of the law that a line may begin with, by their place in WORDS.
    private static final int GO = 0;
    private static final int COME = 1;
    private static final int CARRY = 2;
    private static final int STRAY = 3;
    private static final int FRONT = 4;
    private static final int PRIOR = 5;

    // What an expression may name, counted from FIRST_NAME in WORDS.
    private static final int FIRST_NAME = 6;
    private static final int NAMES = 9;
    private static final int OF_GUEST = 0;
    private static final int OF_FLOOR = 1;
    private static final int OF_AGE = 2;
    private static final int OF_CLOCK = 3;
    private static final int OF_DAY = 4;
    private static final int OF_PEAR = 5;
    private static final int OF_RAIN = 6;
    private static final int OF_BOARD = 7;
    private static final int OF_SINCE = 8;

    // Steps of the law's code: the step's number times STEP, and its argument.
    private static final int STEP = 10000;
    private static final int NUMBER_STEP = 0;
    private static final int NAME_STEP = 1;
    private static final int PLUS_STEP = 2;
    private static final int LESS_STEP = 3;
    private static final int TIMES_STEP = 4;
    private static final int PART_STEP = 5;
    private static final int BELOW_STEP = 6;
    private static final int SAME_STEP = 7;
    private static final int ABOVE_STEP = 8;
    private static final int NOT_STEP = 9;
    private static final int AND_STEP = 10;
    private static final int OR_STEP = 11;
    private static final int STACK = 64;
    private static final int MOST_WAITING = 64;
    private static final int MOST_DIGITS = 4;
    private static final int MOST_SEEN = 999;

    // A word of another text can't stand in this one, so one list of words serves all three.
    private static final String WORDS = "go come carry stray front prior guest floor age clock day pear rain board since when or and not sign in out clerk from for at ";

    // Kinds of tokens: a mark is its own sign, a word is WORD and its place in WORDS.
    private static final int TOKEN_KIND = 0;
    private static final int TOKEN_VALUE = 1;
    private static final int TOKEN_PLACE = 2;
    private static final int TOKEN_WIDTH = 3;
    private static final int END = -1;
    private static final int NUMBER = -2;
    private static final int BAD = -3;
    private static final int WORD = 256;
    private static final int WHEN = WORD + 15;
    private static final int OR = WORD + 16;
    private static final int AND = WORD + 17;
    private static final int NOT = WORD + 18;
    private static final int SIGN = WORD + 19;
    private static final int SEEN_IN = WORD + 20;
    private static final int SEEN_OUT = WORD + 21;
    private static final int CLERK = WORD + 22;
    private static final int FROM = WORD + 23;
    private static final int FOR = WORD + 24;
    private static final int AT = WORD + 25;

    private static final int[] UNTOLD = {100, 200, 300, 0, 500};
    private static final int UNTOLD_PRIOR = 900;
    private static final int UNTOLD_PRIOR_ON_BOARD = 100;

    private final House house = new House();
    private final House kept = new House();
    private boolean isKept = false;
    private final Past past = new Past();
    private final Reader reader = new Reader();
    private final Law law = new Law(house);
    private final Porter porter = new Porter(house, law);
    private final Belief belief = new Belief(house, law);
    private final Foresight foresight = new Foresight(house, law);
    private final Records records = new Records(house);
    private final Rounds rounds = new Rounds(house, belief);

    public IsHeIn() {
    }

    // ---- what is told ----

    public int state(int v) {
        int was = house.draws;
        house.draws = v;
        past.forget();
        return was;
    }

    public int guest(int floor, int age) {
        if (!isWithin(floor, 0, FLOORS - 1) || !isWithin(age, 0, MOST_AGE) || house.guests.isFull()) {
            return NONE;
        }
        past.forget();
        return house.addGuest(floor, age);
    }

    public boolean set(int what, int who, int v) {
        if (!canSet(what, who, v)) {
            return false;
        }
        if (what == 0) {
            house.pear = v;
        } else if (what == 1) {
            house.rain = v;
        } else {
            house.guests.put(who, AGE, v);
        }
        past.forget();
        return true;
    }

    private boolean canSet(int what, int who, int v) {
        switch (what) {
            case 0:
                return isWithin(v, 0, MOST_PEAR);
            case 1:
                return isWithin(v, 0, MOST_RAIN);
            case 2:
                return house.isGuest(who) && isWithin(v, 0, MOST_AGE);
            default:
                return false;
        }
    }

    public boolean hang(int guest, int hook) {
        if (!house.isGuest(guest) || !house.isGuest(hook) || !house.isOut(guest) || house.hasKey(hook)) {
            return false;
        }
        past.keep(house);
        house.guests.put(guest, KEY, hook);
        house.write(BY_HAND, guest, hook, NONE);
        return true;
    }

    public boolean looks(int guest, int sign, int seen) {
        if (!house.isGuest(guest) || !house.isSign(sign) || !isWithin(seen, NONE, 1)) {
            return false;
        }
        if (house.guests.at(guest, SEEN + sign) == seen) {
            return false;
        }
        past.keep(house);
        house.guests.put(guest, SEEN + sign, seen);
        return true;
    }

    public int hours(int n) {
        if (!isWithin(n, 1, MOST_HOURS) || house.hour + n > LAST_HOUR) {
            return NONE;
        }
        int moves = 0;
        for (int i = 0; i < n; i++) {
            past.keep(house);
            moves += porter.passHour();
        }
        return moves;
    }

    public int feed(int a, int b, int c, int d, int e) {
        if (!reader.hasSpaceFor(20)) {
            return NONE;
        }
        reader.takeFour(a);
        reader.takeFour(b);
        reader.takeFour(c);
        reader.takeFour(d);
        reader.takeFour(e);
        return reader.length;
    }

    public boolean end(int n) {
        if (!isWithin(n, 0, reader.length)) {
            return false;
        }
        reader.length = n;
        return true;
    }

    public int text(int k) {
        boolean isRead = reader.readText(k);
        reader.length = 0;
        if (!isRead) {
            return NONE;
        }
        if (k == LAW_TEXT) {
            house.laws.copyFrom(reader.laws);
            house.code.copyFrom(reader.code);
            return house.laws.rows;
        }
        past.forget();
        if (k == SIGN_TEXT) {
            house.signs.copyFrom(reader.signs);
            house.forgetSeen();
            return house.signs.rows;
        }
        house.shifts.copyFrom(reader.shifts);
        return house.shifts.rows;
    }

    public int fault(int what) {
        if (what == 0) {
            return reader.fault;
        }
        return what == 1 ? reader.faultPlace : NONE;
    }

    public int caller(int guest, int x, int y) {
        if (guest == NONE) {
            house.callers.clear();
            return 0;
        }
        if (!house.isGuest(guest) || !isWithin(x, 0, PRICE) || !isWithin(y, 0, PRICE) || house.callers.isFull()) {
            return NONE;
        }
        int row = house.callers.add();
        house.callers.put(row, CALLER_GUEST, guest);
        house.callers.put(row, CALLER_IN, x);
        house.callers.put(row, CALLER_OUT, y);
        return house.callers.rows;
    }

    public int room(int guest, int minutes, int by, int worth) {
        if (guest == NONE) {
            house.rooms.clear();
            return 0;
        }
        if (!house.isGuest(guest) || !isWithin(minutes, 1, 99) || !isWithin(by, 1, 999)
                || !isWithin(worth, 0, 99) || house.rooms.isFull()) {
            return NONE;
        }
        int row = house.rooms.add();
        house.rooms.put(row, ROOM_GUEST, guest);
        house.rooms.put(row, ROOM_MINUTES, minutes);
        house.rooms.put(row, ROOM_WHEN, by);
        house.rooms.put(row, ROOM_WORTH, worth);
        return house.rooms.rows;
    }

    public boolean undo() {
        return past.giveBack(house);
    }

    public boolean image(boolean taken) {
        if (taken) {
            kept.copyFrom(house);
            isKept = true;
            return true;
        }
        if (!isKept) {
            return false;
        }
        house.copyFrom(kept);
        past.forget();
        return true;
    }

    // ---- what stands written ----

    public int of(int guest, int what) {
        if (!house.isGuest(guest)) {
            return NO_SUCH;
        }
        if (isWithin(what, FLOOR, SINCE)) {
            return house.guests.at(guest, what);
        }
        if (what == 5) {
            return belief.sureOf(guest);
        }
        if (!isWithin(what, 6, 6 + PRIOR)) {
            return NO_SUCH;
        }
        law.face(guest);
        return law.tells(what - 6);
    }

    public int hook(int i) {
        return house.isGuest(i) ? house.keyOn(i) : NO_SUCH;
    }

    public int sign(int i, int what) {
        if (!house.isSign(i)) {
            return NO_SUCH;
        }
        if (isWithin(what, SIGN_IN, SIGN_OUT)) {
            return house.signs.at(i, what);
        }
        return what >= 2 && house.isGuest(what - 2) ? house.guests.at(what - 2, SEEN + i) : NO_SUCH;
    }

    public int book(int i, int what) {
        if (!house.book.hasRow(i) || !isWithin(what, BOOK_HOUR, BOOK_CLERK)) {
            return NO_SUCH;
        }
        return house.book.at(i, what);
    }

    public int saw(int guest, int what) {
        if (!house.isGuest(guest) || !isWithin(what, 0, 1)) {
            return NONE;
        }
        return records.linesOf(guest, what == 0);
    }

    public int by(int door, int what) {
        if (!isWithin(door, 0, DOORS - 1) || !isWithin(what, WENT, CAME)) {
            return NONE;
        }
        return records.linesAt(door, what);
    }

    public int tellsOn(int clerk) {
        return isWithin(clerk, 0, CLERKS - 1) ? records.outSeenBy(clerk) : NONE;
    }

    public int ring(int guest) {
        return house.isGuest(guest) ? Integer.bitCount(records.ringOf(guest)) : NONE;
    }

    public int swapped(int what) {
        switch (what) {
            case 0:
                return records.wrongHooks();
            case 1:
                return Integer.bitCount(records.wrongHooks()) + records.ringCount();
            case 2:
                return records.ringCount();
            default:
                return NONE;
        }
    }

    public int thief() {
        return records.longestOutWithKey();
    }

    public int look(int what) {
        switch (what) {
            case 0:
                return house.guests.rows;
            case 1:
                return house.hour;
            case 2:
                return house.outSet();
            case 3:
                return house.hookSet();
            case 4:
                return house.pear;
            case 5:
                return house.rain;
            case 6:
                return house.book.rows;
            case 7:
                return house.draws;
            default:
                return lookAtTold(what);
        }
    }

    private int lookAtTold(int what) {
        switch (what) {
            case 8:
                return house.laws.rows;
            case 9:
                return house.signs.rows;
            case 10:
                return house.shifts.rows;
            case 11:
                return house.rooms.rows;
            case 12:
                return past.count;
            case 13:
                return house.callers.rows;
            default:
                return NONE;
        }
    }

    // ---- in thought: who is in ----

    public int next(int guest) {
        return house.isGuest(guest) ? belief.signAt(guest, 0) : NONE;
    }

    public int looksAt(int guest, int i) {
        return house.isGuest(guest) && i >= 0 ? belief.signAt(guest, i) : NONE;
    }

    public int say(int guest, int x, int y) {
        if (!house.isGuest(guest) || !isWithin(x, 0, WRONG_WORD) || !isWithin(y, 0, WRONG_WORD)) {
            return NONE;
        }
        return belief.saysIn(guest, x, y) ? 1 : 0;
    }

    public int said(int what) {
        return isWithin(what, 0, 1) ? belief.saidToAll(what == 1) : NONE;
    }

    public int many(int what) {
        switch (what) {
            case 0:
                return belief.sumOfSure();
            case 1:
                return belief.likeliest(false);
            case 2:
                return belief.likeliest(true);
            default:
                return NONE;
        }
    }

    public int span(int p, int what) {
        if (!isWithin(p, 0, THOUSAND) || !isWithin(what, 0, 1)) {
            return NONE;
        }
        return belief.spanEdge(p, what == 1);
    }

    public int counted(int guest, int c) {
        if (!house.isGuest(guest) || !isWithin(c, 0, MOST_GUESTS)) {
            return NONE;
        }
        return belief.amongCounted(guest, c);
    }

    public int empty(int floor) {
        return isWithin(floor, 0, FLOORS - 1) ? belief.emptyChance(floor) : NONE;
    }

    public int pair(int what) {
        if (!isWithin(what, 0, 2) || house.guests.rows < 2) {
            return NONE;
        }
        return belief.bestPair(what);
    }

    public int lack(int what) {
        switch (what) {
            case 0:
                return Integer.bitCount(house.keylessSet());
            case 1:
                return belief.keylessOut();
            case 2:
                return Integer.bitCount(house.keylessSet() & house.outSet());
            default:
                return NONE;
        }
    }

    // ---- in thought: what the law tells of other hours and tags ----

    public int visit(int guest, int what) {
        if (!house.isGuest(guest) || !isWithin(what, 0, 1)) {
            return NONE;
        }
        return foresight.bestVisit(guest, belief.sureOf(guest), what == 1);
    }

    public int expect() {
        return foresight.movesNow() / THOUSAND;
    }

    public int busy(int what) {
        if (what == 0) {
            return foresight.busiestClock();
        }
        return what == 1 ? foresight.movesAt(foresight.busiestClock()) / THOUSAND : NONE;
    }

    public int tagCost(int x, int y, int w) {
        if (!isWithin(x, 0, PRICE) || !isWithin(y, 0, PRICE) || !isWithin(w, 0, MOST_PEAR)) {
            return NONE;
        }
        return foresight.costOfTag(x, y, w);
    }

    public int tag(int x, int y) {
        if (!isWithin(x, 0, PRICE) || !isWithin(y, 0, PRICE)) {
            return NONE;
        }
        return foresight.bestTag(x, y);
    }

    public int stands(int price, int what) {
        if (!isWithin(price, 0, PRICE) || (what != 0 && !isWithin(what, 10, 9 + CLOCKS))) {
            return NONE;
        }
        foresight.plan(price);
        return what == 0 ? foresight.mostSeen() : foresight.doorAt(what - 10, price);
    }

    public int carries() {
        return foresight.likeliestToCarry();
    }

    public int away(int guest, int n) {
        if (!house.isGuest(guest) || !isWithin(n, 0, MOST_AWAY) || !house.isOut(guest)) {
            return NONE;
        }
        return foresight.stillOut(guest, n);
    }

    // ---- in thought: rounds through the house ----

    public int knocks(int i) {
        return rounds.roomAt(i);
    }

    public int done(int what) {
        if (!isWithin(what, 0, 1)) {
            return NONE;
        }
        int best = rounds.bestRooms();
        return what == 0 ? rounds.worthOf(best) : best;
    }

    public int fire(int m, int what) {
        if (!isWithin(m, 1, MOST_FIRE)) {
            return NONE;
        }
        rounds.searchFloors(m);
        if (what == 0) {
            return (int) (rounds.mostFound / MILLION);
        }
        if (what == 1) {
            return rounds.bestLength;
        }
        return what >= 10 && what - 10 < rounds.bestLength ? cell(rounds.bestRow, what - 10) : NONE;
    }

    // ---- helpers ----

    private static boolean isWithin(int v, int low, int high) {
        return v >= low && v <= high;
    }

    private static int cell(int[] row, int i) {
        return row != null && i >= 0 && i < row.length ? row[i] : 0;
    }

    private static void put(int[] row, int i, int v) {
        if (row != null && i >= 0 && i < row.length) {
            row[i] = v;
        }
    }

    /** So many millionths of v, downwards. */
    private static int share(int v, int millionths) {
        return (int) ((long) v * millionths / MILLION);
    }

    /** Rows of numbers, made once and filled anew. */
    private static final class Table {
        final int most;
        final int width;
        final int[] cells;
        int rows = 0;

        Table(int most, int width) {
            this.most = Math.max(most, 0);
            this.width = Math.max(width, 0);
            this.cells = new int[Math.max(this.most * this.width, 0)];
        }

        boolean hasRow(int row) {
            return row >= 0 && row < rows;
        }

        boolean isFull() {
            return rows >= most;
        }

        int at(int row, int column) {
            int i = row * width + column;
            boolean isHere = row >= 0 && row < rows && column >= 0 && column < width;
            return isHere && i >= 0 && i < cells.length ? cells[i] : 0;
        }

        void put(int row, int column, int v) {
            int i = row * width + column;
            boolean isHere = row >= 0 && row < rows && column >= 0 && column < width;
            if (isHere && i >= 0 && i < cells.length) {
                cells[i] = v;
            }
        }

        /** A new row that begins with v. */
        void push(int v) {
            if (rows < most) {
                rows++;
                put(rows - 1, 0, v);
            }
        }

        int add() {
            if (isFull()) {
                return NONE;
            }
            rows++;
            return rows - 1;
        }

        void clear() {
            rows = 0;
        }

        void copyFrom(Table other) {
            rows = Math.min(other.rows, most);
            int used = rows * width;
            for (int i = 0; i < used && i < cells.length && i < other.cells.length; i++) {
                cells[i] = other.cells[i];
            }
        }
    }

    /** All that THE IMAGE holds. */
    private static final class House {
        final Table guests = new Table(MOST_GUESTS, GUEST_WIDTH);
        final Table book = new Table(MOST_BOOK, BOOK_WIDTH);
        final Table laws = new Table(MOST_LAWS, LINE_WIDTH);
        final Table code = new Table(MOST_BYTES, 1);
        final Table signs = new Table(MOST_SIGNS, SIGN_WIDTH);
        final Table shifts = new Table(MOST_SHIFTS, SHIFT_WIDTH);
        final Table rooms = new Table(MOST_ROOMS, ROOM_WIDTH);
        final Table callers = new Table(MOST_CALLERS, CALLER_WIDTH);
        int pear = 0;
        int rain = 0;
        int hour = 0;
        int draws = 0;

        void copyFrom(House other) {
            guests.copyFrom(other.guests);
            book.copyFrom(other.book);
            laws.copyFrom(other.laws);
            code.copyFrom(other.code);
            signs.copyFrom(other.signs);
            shifts.copyFrom(other.shifts);
            rooms.copyFrom(other.rooms);
            callers.copyFrom(other.callers);
            pear = other.pear;
            rain = other.rain;
            hour = other.hour;
            draws = other.draws;
        }

        int addGuest(int floor, int age) {
            int guest = guests.add();
            guests.put(guest, FLOOR, floor);
            guests.put(guest, AGE, age);
            guests.put(guest, OUT, 0);
            guests.put(guest, KEY, NONE);
            guests.put(guest, SINCE, 0);
            forgetSeenOf(guest);
            return guest;
        }

        void forgetSeen() {
            for (int g = 0; g < guests.rows; g++) {
                forgetSeenOf(g);
            }
        }

        void forgetSeenOf(int guest) {
            for (int s = 0; s < MOST_SIGNS; s++) {
                guests.put(guest, SEEN + s, NONE);
            }
        }

        boolean isGuest(int guest) {
            return guests.hasRow(guest);
        }

        boolean isSign(int sign) {
            return signs.hasRow(sign);
        }

        boolean isOut(int guest) {
            return guests.at(guest, OUT) == 1;
        }

        int keyOn(int hook) {
            for (int g = 0; g < guests.rows; g++) {
                if (guests.at(g, KEY) == hook) {
                    return g;
                }
            }
            return NONE;
        }

        boolean hasKey(int hook) {
            return keyOn(hook) != NONE;
        }

        int outSet() {
            int set = 0;
            for (int g = 0; g < guests.rows; g++) {
                set |= isOut(g) ? 1 << g : 0;
            }
            return set;
        }

        int hookSet() {
            int set = 0;
            for (int h = 0; h < guests.rows; h++) {
                set |= hasKey(h) ? 1 << h : 0;
            }
            return set;
        }

        int keylessSet() {
            int set = 0;
            for (int g = 0; g < guests.rows; g++) {
                set |= guests.at(g, KEY) == NONE ? 1 << g : 0;
            }
            return set;
        }

        int drawThousand() {
            draws = draws * 1664525 + 1013904223;
            return (draws >>> 8) % THOUSAND;
        }

        void write(int what, int guest, int door, int clerk) {
            if (book.isFull()) {
                return;
            }
            int line = book.add();
            book.put(line, BOOK_HOUR, hour);
            book.put(line, BOOK_WHAT, what);
            book.put(line, BOOK_GUEST, guest);
            book.put(line, BOOK_DOOR, door);
            book.put(line, BOOK_CLERK, clerk);
        }

        int clerkAt(int door) {
            for (int line = 0; line < shifts.rows; line++) {
                int gone = (hour % CLOCKS + CLOCKS - shifts.at(line, SHIFT_FROM)) % CLOCKS;
                if (shifts.at(line, SHIFT_DOOR) == door && gone < shifts.at(line, SHIFT_LONG)) {
                    return shifts.at(line, SHIFT_CLERK);
                }
            }
            return NONE;
        }
    }

    /** What an HOUR, a HANGING or a LOOK can change, as it was before. */
    private static final class Moment {
        final Table guests = new Table(MOST_GUESTS, GUEST_WIDTH);
        int lines = 0;
        int hour = 0;
        int draws = 0;

        void takeFrom(House house) {
            guests.copyFrom(house.guests);
            lines = house.book.rows;
            hour = house.hour;
            draws = house.draws;
        }

        void giveTo(House house) {
            house.guests.copyFrom(guests);
            // The book only grows at its end, so its older lines still stand.
            house.book.rows = Math.min(lines, house.book.rows);
            house.hour = hour;
            house.draws = draws;
        }
    }

    /** The moments to which one can go back, in a circle. */
    private static final class Past {
        final Moment[] moments = new Moment[MOST_STEPS];
        int count = 0;
        int top = 0;

        Past() {
            for (int i = 0; i < moments.length; i++) {
                moments[i] = new Moment();
            }
        }

        void forget() {
            count = 0;
        }

        void keep(House house) {
            Moment moment = momentAt(top);
            if (moment == null) {
                return;
            }
            moment.takeFrom(house);
            top = (top + 1) % MOST_STEPS;
            count = Math.min(count + 1, MOST_STEPS);
        }

        boolean giveBack(House house) {
            int last = (top + MOST_STEPS - 1) % MOST_STEPS;
            Moment moment = momentAt(last);
            if (count == 0 || moment == null) {
                return false;
            }
            moment.giveTo(house);
            top = last;
            count--;
            return true;
        }

        private Moment momentAt(int i) {
            return i >= 0 && i < moments.length ? moments[i] : null;
        }
    }

    /** The tape, and the reading of it; what it reads stands in drafts until the whole text is good. */
    private static final class Reader {
        final Table laws = new Table(MOST_LAWS, LINE_WIDTH);
        final Table code = new Table(MOST_BYTES, 1);
        final Table signs = new Table(MOST_SIGNS, SIGN_WIDTH);
        final Table shifts = new Table(MOST_SHIFTS, SHIFT_WIDTH);
        private final int[] tape = new int[MOST_BYTES];
        private final Table tokens = new Table(MOST_BYTES + 1, TOKEN_WIDTH);
        // The ( and not that are open, and the and, or that wait for their right side.
        private final int[] waiting = new int[MOST_WAITING];
        private int waitingCount = 0;
        private int openCount = 0;
        int length = 0;
        int fault = 0;
        int faultPlace = NONE;
        private int token = 0;
        private int place = 0;
        private int kind = END;
        private int value = 0;
        private int start = 0;

        boolean hasSpaceFor(int bytes) {
            return length + bytes <= MOST_BYTES;
        }

        void takeFour(int number) {
            for (int shift = 24; shift >= 0; shift -= 8) {
                put(tape, length, number >>> shift & 255);
                length++;
            }
        }

        boolean readText(int k) {
            fault = 0;
            faultPlace = NONE;
            if (k < LAW_TEXT || k > SHIFT_TEXT) {
                return false;
            }
            splitTape();
            laws.clear();
            code.clear();
            signs.clear();
            shifts.clear();
            token = NONE;
            stepOn();
            for (int line = 0; line < MOST_BYTES && kind != END; line++) {
                boolean isGood = k == LAW_TEXT ? readLaw() : k == SIGN_TEXT ? readSign() : readShift();
                if (!isGood) {
                    return false;
                }
            }
            return true;
        }

        /** Always false, so that a caller can hand it on. */
        private boolean refuse(int why) {
            fault = why;
            faultPlace = start;
            return false;
        }

        private void stepOn() {
            token = Math.min(token + 1, tokens.rows - 1);
            kind = tokens.at(token, TOKEN_KIND);
            value = tokens.at(token, TOKEN_VALUE);
            start = tokens.at(token, TOKEN_PLACE);
        }

        private boolean pass(int wanted) {
            if (kind != wanted) {
                return refuse(1);
            }
            stepOn();
            return true;
        }

        // -- tokens --

        private void splitTape() {
            tokens.clear();
            place = 0;
            for (int i = 0; i < MOST_BYTES && skipBlanks(); i++) {
                int sign = cell(tape, place);
                if (isLetter(sign)) {
                    splitWord();
                } else if (isDigit(sign)) {
                    splitNumber();
                } else {
                    addToken(sign, 0, place);
                    place++;
                }
            }
            addToken(END, 0, length);
        }

        /** Whether something stands behind the blanks. */
        private boolean skipBlanks() {
            while (place < length && isBlank(cell(tape, place))) {
                place++;
            }
            return place < length;
        }

        private void addToken(int kindOf, int number, int from) {
            int row = tokens.add();
            tokens.put(row, TOKEN_KIND, kindOf);
            tokens.put(row, TOKEN_VALUE, number);
            tokens.put(row, TOKEN_PLACE, from);
        }

        private void splitWord() {
            int from = place;
            while (place < length && isLetter(cell(tape, place))) {
                place++;
            }
            int word = wordNumber(from);
            addToken(word == NONE ? BAD : WORD + word, 0, from);
        }

        private void splitNumber() {
            int from = place;
            int number = 0;
            while (place < length && isDigit(cell(tape, place))) {
                number = place - from < MOST_DIGITS ? number * 10 + cell(tape, place) - '0' : 0;
                place++;
            }
            addToken(place - from > MOST_DIGITS ? BAD : NUMBER, number, from);
        }

        /** The place in WORDS of the word that ends here and began on the tape at begin. */
        private int wordNumber(int begin) {
            int word = 0;
            int from = 0;
            for (int i = 0; i < WORDS.length(); i++) {
                if (WORDS.charAt(i) == ' ') {
                    if (isWord(begin, from, i)) {
                        return word;
                    }
                    word++;
                    from = i + 1;
                }
            }
            return NONE;
        }

        private boolean isWord(int begin, int from, int to) {
            if (to - from != place - begin) {
                return false;
            }
            for (int i = Math.max(from, 0); i < to && i < WORDS.length(); i++) {
                if (WORDS.charAt(i) != cell(tape, begin + i - from)) {
                    return false;
                }
            }
            return true;
        }

        private static boolean isBlank(int sign) {
            return sign == 32 || sign == 10;
        }

        private static boolean isLetter(int sign) {
            return (sign >= 'a' && sign <= 'z') || (sign >= 'A' && sign <= 'Z');
        }

        private static boolean isDigit(int sign) {
            return sign >= '0' && sign <= '9';
        }

        // -- signs and shifts --

        private boolean readSign() {
            if (!readHead(SIGN, signs)) {
                return false;
            }
            stepOn();
            return readNamed(SEEN_IN, 1, MOST_SEEN, signs, SIGN_IN)
                && readNamed(SEEN_OUT, 1, MOST_SEEN, signs, SIGN_OUT)
                && pass(';');
        }

        private boolean readShift() {
            return readHead(CLERK, shifts)
                && readNamed(CLERK, 0, CLERKS - 1, shifts, SHIFT_CLERK)
                && readNamed(FROM, 0, CLOCKS - 1, shifts, SHIFT_FROM)
                && readNamed(FOR, 1, CLOCKS, shifts, SHIFT_LONG)
                && readNamed(AT, 0, DOORS - 1, shifts, SHIFT_DOOR)
                && pass(';');
        }

        /** Makes a row for the line that begins with this word; the word itself still stands to be read. */
        private boolean readHead(int word, Table table) {
            if (kind != word) {
                return refuse(1);
            }
            return table.add() != NONE || refuse(3);
        }

        private boolean readNamed(int word, int low, int high, Table table, int column) {
            if (!pass(word)) {
                return false;
            }
            if (kind != NUMBER) {
                return refuse(1);
            }
            if (!isWithin(value, low, high)) {
                return refuse(2);
            }
            table.put(table.rows - 1, column, value);
            stepOn();
            return true;
        }

        // -- the law --

        private boolean readLaw() {
            if (!isWithin(kind, WORD + GO, WORD + PRIOR)) {
                return refuse(1);
            }
            int row = laws.add();
            if (row == NONE) {
                return refuse(3);
            }
            laws.put(row, LINE_WORD, kind - WORD);
            laws.put(row, LINE_FROM, code.rows);
            stepOn();
            if (!readSum()) {
                return false;
            }
            laws.put(row, LINE_WHEN, code.rows);
            if (kind == WHEN) {
                stepOn();
                if (!readCondition()) {
                    return false;
                }
            }
            laws.put(row, LINE_TO, code.rows);
            return pass(';');
        }

        /** Reads E; a sum waits until the product on its right is whole. */
        private boolean readSum() {
            if (!readUnit()) {
                return false;
            }
            int sum = NONE;
            for (int i = 0; i < MOST_BYTES && isReckoning(kind); i++) {
                int mark = kind;
                stepOn();
                if (mark == '+' || mark == '-') {
                    emitIfAny(sum);
                    sum = mark == '+' ? PLUS_STEP : LESS_STEP;
                }
                if (mark == '/' ? !readPart() : !readUnit()) {
                    return false;
                }
                emitIfAny(mark == '*' ? TIMES_STEP : NONE);
            }
            emitIfAny(sum);
            return true;
        }

        private static boolean isReckoning(int mark) {
            return mark == '+' || mark == '-' || mark == '*' || mark == '/';
        }

        private void emitIfAny(int step) {
            if (step != NONE) {
                code.push(step * STEP);
            }
        }

        private boolean readUnit() {
            int name = kind - WORD - FIRST_NAME;
            if (kind == NUMBER) {
                code.push(NUMBER_STEP * STEP + value);
            } else if (name >= 0 && name < NAMES) {
                code.push(NAME_STEP * STEP + name);
            } else {
                return refuse(1);
            }
            stepOn();
            return true;
        }

        private boolean readPart() {
            if (kind != NUMBER) {
                return refuse(1);
            }
            if (value == 0) {
                return refuse(2);
            }
            code.push(PART_STEP * STEP + value);
            stepOn();
            return true;
        }

        /** Reads B, with a row of what waits in place of calls within calls. */
        private boolean readCondition() {
            waitingCount = 0;
            openCount = 0;
            for (int i = 0; i < MOST_BYTES; i++) {
                if (!readOpenings() || !readSum()) {
                    return false;
                }
                int comparison = stepOfComparison();
                if (comparison == NONE) {
                    return refuse(1);
                }
                stepOn();
                if (!readSum()) {
                    return false;
                }
                code.push(comparison * STEP);
                readClosings();
                joinWhatWaits(kind == AND);
                if (kind != AND && kind != OR) {
                    return openCount == 0 || refuse(1);
                }
                hold(kind);
                stepOn();
            }
            return false;
        }

        private void hold(int word) {
            put(waiting, waitingCount, word);
            waitingCount++;
        }

        private int lastWaiting() {
            return waitingCount > 0 ? cell(waiting, waitingCount - 1) : NONE;
        }

        private boolean readOpenings() {
            for (int i = 0; i < MOST_BYTES && (kind == '(' || kind == NOT); i++) {
                if (openCount >= MOST_OPEN) {
                    return refuse(3);
                }
                hold(kind);
                openCount++;
                stepOn();
            }
            return true;
        }

        private int stepOfComparison() {
            switch (kind) {
                case '<':
                    return BELOW_STEP;
                case '=':
                    return SAME_STEP;
                case '>':
                    return ABOVE_STEP;
                default:
                    return NONE;
            }
        }

        /** A C is whole: so is each not before it, and each ( that closes here. */
        private void readClosings() {
            closeNots();
            for (int i = 0; i < MOST_BYTES && kind == ')' && openCount > 0; i++) {
                joinWhatWaits(false);
                waitingCount--;
                openCount--;
                stepOn();
                closeNots();
            }
        }

        private void closeNots() {
            for (int i = 0; i < MOST_OPEN && lastWaiting() == NOT; i++) {
                code.push(NOT_STEP * STEP);
                waitingCount--;
                openCount--;
            }
        }

        /** Joins what waits inside the last ( ; before an and no or, for that binds less. */
        private void joinWhatWaits(boolean andAlone) {
            for (int i = 0; i < MOST_WAITING; i++) {
                int last = lastWaiting();
                if (last != AND && (last != OR || andAlone)) {
                    return;
                }
                code.push((last == AND ? AND_STEP : OR_STEP) * STEP);
                waitingCount--;
            }
        }
    }

    /** What THE LAW tells of the GUEST whom it was made to face, by what is known of him. */
    private static final class Law {
        private final House house;
        private final int[] known = new int[NAMES];
        private final int[] stack = new int[STACK];

        Law(House house) {
            this.house = house;
        }

        void face(int guest) {
            put(known, OF_GUEST, guest);
            put(known, OF_FLOOR, house.guests.at(guest, FLOOR));
            put(known, OF_AGE, house.guests.at(guest, AGE));
            put(known, OF_PEAR, house.pear);
            put(known, OF_RAIN, house.rain);
            put(known, OF_BOARD, house.guests.at(guest, KEY) == NONE ? 0 : 1);
            put(known, OF_SINCE, house.guests.at(guest, SINCE));
            supposeHour(house.hour);
        }

        void supposeHour(int hour) {
            put(known, OF_CLOCK, hour % CLOCKS);
            put(known, OF_DAY, hour / CLOCKS);
        }

        void suppose(int name, int v) {
            put(known, name, v);
        }

        int tells(int word) {
            for (int line = 0; line < house.laws.rows; line++) {
                int when = house.laws.at(line, LINE_WHEN);
                int to = house.laws.at(line, LINE_TO);
                boolean isOfWord = house.laws.at(line, LINE_WORD) == word;
                if (isOfWord && (when == to || valueOf(when, to) != 0)) {
                    return Math.max(0, Math.min(valueOf(house.laws.at(line, LINE_FROM), when), THOUSAND));
                }
            }
            if (word == PRIOR) {
                return cell(known, OF_BOARD) == 0 ? UNTOLD_PRIOR : UNTOLD_PRIOR_ON_BOARD;
            }
            return cell(UNTOLD, word);
        }

        private int valueOf(int from, int to) {
            int height = 0;
            for (int i = from; i < to; i++) {
                int step = house.code.at(i, 0) / STEP;
                int argument = house.code.at(i, 0) % STEP;
                int top = cell(stack, height - 1);
                switch (step) {
                    case NUMBER_STEP:
                        put(stack, height, argument);
                        height++;
                        break;
                    case NAME_STEP:
                        put(stack, height, cell(known, argument));
                        height++;
                        break;
                    case PART_STEP:
                        put(stack, height - 1, argument == 0 ? 0 : top / argument);
                        break;
                    case NOT_STEP:
                        put(stack, height - 1, 1 - top);
                        break;
                    default:
                        height--;
                        put(stack, height - 1, joined(step, cell(stack, height - 1), top));
                        break;
                }
            }
            return cell(stack, height - 1);
        }

        private static int joined(int step, int left, int right) {
            switch (step) {
                case PLUS_STEP:
                    return left + right;
                case LESS_STEP:
                    return left - right;
                case TIMES_STEP:
                    return left * right;
                case BELOW_STEP:
                    return left < right ? 1 : 0;
                case SAME_STEP:
                    return left == right ? 1 : 0;
                case ABOVE_STEP:
                    return left > right ? 1 : 0;
                case AND_STEP:
                    return left & right;
                case OR_STEP:
                    return left | right;
                default:
                    return 0;
            }
        }
    }

    /** Lets an HOUR go by. */
    private static final class Porter {
        private final House house;
        private final Law law;
        private final int[] told = new int[PRIOR];

        Porter(House house, Law law) {
            this.house = house;
            this.law = law;
        }

        int passHour() {
            int moves = 0;
            for (int g = 0; g < house.guests.rows; g++) {
                ask(g);
                boolean moved = house.isOut(g) ? comes(g) : goes(g);
                moves += moved ? 1 : 0;
                int since = Math.min(house.guests.at(g, SINCE) + 1, MOST_SINCE);
                house.guests.put(g, SINCE, moved ? 0 : since);
            }
            house.hour++;
            return moves;
        }

        /** All at once: what he does in his turn must not change what is told of him. */
        private void ask(int guest) {
            law.face(guest);
            for (int word = 0; word < told.length; word++) {
                told[word] = law.tells(word);
            }
        }

        private boolean isDrawn(int word) {
            return house.drawThousand() < cell(told, word);
        }

        private boolean goes(int guest) {
            if (!isDrawn(GO)) {
                return false;
            }
            house.guests.put(guest, OUT, 1);
            int door = isDrawn(FRONT) ? 0 : 1;
            if (!isDrawn(CARRY)) {
                hangKey(guest);
            }
            house.write(WENT, guest, door, house.clerkAt(door));
            return true;
        }

        private void hangKey(int guest) {
            int hook = guest;
            if (isDrawn(STRAY)) {
                int neighbour = guest + 1 < house.guests.rows ? guest + 1 : 0;
                hook = house.hasKey(neighbour) ? guest : neighbour;
            }
            if (!house.hasKey(hook)) {
                house.guests.put(guest, KEY, hook);
            }
        }

        private boolean comes(int guest) {
            if (!isDrawn(COME)) {
                return false;
            }
            house.guests.put(guest, OUT, 0);
            house.guests.put(guest, KEY, NONE);
            int door = isDrawn(FRONT) ? 0 : 1;
            house.write(CAME, guest, door, house.clerkAt(door));
            return true;
        }
    }

    /** How sure it is who is in, and what follows from that. */
    private static final class Belief {
        private final House house;
        private final Law law;
        private final int[] glance = new int[MOST_SIGNS];
        private final int[] chances = new int[MOST_GUESTS + 1];
        private final int[] sures = new int[MOST_GUESTS];

        Belief(House house, Law law) {
            this.house = house;
            this.law = law;
        }

        int sureOf(int guest) {
            glanceAt(guest);
            return sureByGlance(guest);
        }

        private void glanceAt(int guest) {
            for (int s = 0; s < glance.length; s++) {
                glance[s] = house.guests.at(guest, SEEN + s);
            }
        }

        private int sureByGlance(int guest) {
            law.face(guest);
            int p = law.tells(PRIOR) * THOUSAND;
            for (int s = 0; s < house.signs.rows; s++) {
                int seen = cell(glance, s);
                p = seen == NONE ? p : sureAfter(p, s, seen == 1);
            }
            return p;
        }

        private int sureAfter(int p, int sign, boolean isSeen) {
            long in = house.signs.at(sign, SIGN_IN);
            long out = house.signs.at(sign, SIGN_OUT);
            long a = p * (isSeen ? in : THOUSAND - in);
            long b = (MILLION - p) * (isSeen ? out : THOUSAND - out);
            return a + b == 0 ? p : (int) (MILLION * a / (a + b));
        }

        private int chanceToSee(int p, int sign) {
            long in = house.signs.at(sign, SIGN_IN);
            long out = house.signs.at(sign, SIGN_OUT);
            return (int) ((p * in + (MILLION - p) * out) / THOUSAND);
        }

        private long surenessBy(int p, int sign) {
            int s = chanceToSee(p, sign);
            long seen = sureAfter(p, sign, true);
            long unseen = sureAfter(p, sign, false);
            return s * Math.max(seen, MILLION - seen) + (MILLION - s) * Math.max(unseen, MILLION - unseen);
        }

        private int bestSign(int p) {
            int best = NONE;
            long most = NONE;
            for (int s = 0; s < house.signs.rows; s++) {
                long sureness = surenessBy(p, s);
                if (cell(glance, s) == NONE && sureness > most) {
                    most = sureness;
                    best = s;
                }
            }
            return best;
        }

        /** The i-th sign to look at, each one before it taken as it likely is. */
        int signAt(int guest, int i) {
            glanceAt(guest);
            for (int k = 0; k < MOST_SIGNS; k++) {
                int p = sureByGlance(guest);
                int sign = bestSign(p);
                if (sign == NONE || k == i) {
                    return sign;
                }
                put(glance, sign, chanceToSee(p, sign) >= HALF ? 1 : 0);
            }
            return NONE;
        }

        boolean saysIn(int guest, int x, int y) {
            return isBestSaidIn(sureOf(guest), x, y);
        }

        private static boolean isBestSaidIn(long p, int x, int y) {
            return (MILLION - p) * x <= p * y;
        }

        /** The set of the callers to whom in is said, or what all that is said costs. */
        int saidToAll(boolean isCost) {
            int set = 0;
            int costs = 0;
            for (int c = 0; c < house.callers.rows; c++) {
                int p = sureOf(house.callers.at(c, CALLER_GUEST));
                int x = house.callers.at(c, CALLER_IN);
                int y = house.callers.at(c, CALLER_OUT);
                boolean isIn = isBestSaidIn(p, x, y);
                set |= isIn ? 1 << c : 0;
                costs += isIn ? share(x, MILLION - p) : share(y, p);
            }
            return isCost ? costs : set;
        }

        private void weighAll() {
            for (int g = 0; g < house.guests.rows; g++) {
                glanceAt(g);
                put(sures, g, sureByGlance(g));
            }
        }

        int sumOfSure() {
            weighAll();
            int sum = 0;
            for (int g = 0; g < house.guests.rows; g++) {
                sum += cell(sures, g);
            }
            return sum / MILLION;
        }

        /** The chances of how many are in; of the others alone, if one is left out. */
        private void countChances(int leftOut) {
            weighAll();
            for (int k = 0; k < chances.length; k++) {
                chances[k] = k == 0 ? MILLION : 0;
            }
            for (int g = 0; g < house.guests.rows; g++) {
                if (g != leftOut) {
                    countChance(cell(sures, g));
                }
            }
        }

        private void countChance(int p) {
            for (int k = chances.length - 1; k >= 0; k--) {
                int more = share(cell(chances, k - 1), p);
                put(chances, k, share(cell(chances, k), MILLION - p) + more);
            }
        }

        /** How many are likeliest in, or the chance of it. */
        int likeliest(boolean isChance) {
            countChances(NONE);
            int best = 0;
            for (int k = 1; k <= house.guests.rows; k++) {
                best = cell(chances, k) > cell(chances, best) ? k : best;
            }
            return isChance ? cell(chances, best) : best;
        }

        int spanEdge(int p, boolean isLast) {
            countChances(NONE);
            int most = house.guests.rows;
            for (int wide = 0; wide <= most; wide++) {
                for (int a = 0; a + wide <= most; a++) {
                    if (chanceWithin(a, a + wide) >= p * THOUSAND) {
                        return isLast ? a + wide : a;
                    }
                }
            }
            return NONE;
        }

        private int chanceWithin(int a, int b) {
            int sum = 0;
            for (int k = a; k <= b; k++) {
                sum += cell(chances, k);
            }
            return sum;
        }

        int amongCounted(int guest, int c) {
            countChances(guest);
            long p = cell(sures, guest);
            long with = p * cell(chances, c - 1);
            long without = (MILLION - p) * cell(chances, c);
            return with + without == 0 ? NONE : (int) (MILLION * with / (with + without));
        }

        int emptyChance(int floor) {
            weighAll();
            int p = MILLION;
            for (int g = 0; g < house.guests.rows; g++) {
                if (house.guests.at(g, FLOOR) == floor) {
                    p = share(p, MILLION - cell(sures, g));
                }
            }
            return p;
        }

        /** What 0 and 1: who they are; 2: their chance. */
        int bestPair(int what) {
            weighAll();
            int first = NONE;
            int second = NONE;
            int most = NONE;
            for (int a = 0; a < house.guests.rows; a++) {
                for (int b = a + 1; b < house.guests.rows; b++) {
                    int both = share(cell(sures, a), cell(sures, b));
                    if (both > most) {
                        most = both;
                        first = a;
                        second = b;
                    }
                }
            }
            if (what == 2) {
                return most;
            }
            return what == 0 ? first : second;
        }

        int keylessOut() {
            weighAll();
            int sum = 0;
            for (int g = 0; g < house.guests.rows; g++) {
                if (house.guests.at(g, KEY) == NONE) {
                    sum += MILLION - cell(sures, g);
                }
            }
            return sum / MILLION;
        }
    }

    /** What THE LAW tells, if the hour or the tag were another. */
    private static final class Foresight {
        private final House house;
        private final Law law;
        // Of each clock and door: the goings seen, and the most that can still be seen from there on.
        private final Table seen = new Table(CLOCKS, DOORS);
        private final Table rest = new Table(CLOCKS, DOORS);

        Foresight(House house, Law law) {
            this.house = house;
            this.law = law;
        }

        int bestVisit(int guest, int sure, boolean isChance) {
            law.face(guest);
            int p = sure;
            int best = 0;
            int most = sure;
            for (int k = 1; k < CLOCKS; k++) {
                law.supposeHour(house.hour + k - 1);
                int gone = p * law.tells(GO) / THOUSAND;
                int come = (MILLION - p) * law.tells(COME) / THOUSAND;
                p = p - gone + come;
                if (p > most) {
                    most = p;
                    best = k;
                }
            }
            return isChance ? most : best;
        }

        int stillOut(int guest, int hours) {
            law.face(guest);
            int p = MILLION;
            for (int k = 0; k < hours; k++) {
                law.supposeHour(house.hour + k);
                law.suppose(OF_SINCE, Math.min(house.guests.at(guest, SINCE) + k, MOST_SINCE));
                p = p * (THOUSAND - law.tells(COME)) / THOUSAND;
            }
            return p;
        }

        int movesNow() {
            return movesAt(house.hour % CLOCKS);
        }

        int movesAt(int clock) {
            int sum = 0;
            for (int g = 0; g < house.guests.rows; g++) {
                law.face(g);
                law.suppose(OF_CLOCK, clock);
                sum += law.tells(house.isOut(g) ? COME : GO);
            }
            return sum;
        }

        int busiestClock() {
            int best = 0;
            int most = movesAt(0);
            for (int clock = 1; clock < CLOCKS; clock++) {
                int moves = movesAt(clock);
                if (moves > most) {
                    most = moves;
                    best = clock;
                }
            }
            return best;
        }

        int costOfTag(int x, int y, int w) {
            int sum = 0;
            for (int g = 0; g < house.guests.rows; g++) {
                law.face(g);
                law.suppose(OF_PEAR, w);
                sum += law.tells(CARRY);
            }
            return sum * x / THOUSAND + w * y;
        }

        int bestTag(int x, int y) {
            int best = 0;
            int least = costOfTag(x, y, 0);
            for (int w = 1; w <= MOST_PEAR; w++) {
                int cost = costOfTag(x, y, w);
                if (cost < least) {
                    least = cost;
                    best = w;
                }
            }
            return best;
        }

        int likeliestToCarry() {
            int best = NONE;
            int most = NONE;
            for (int g = 0; g < house.guests.rows; g++) {
                law.face(g);
                int carry = law.tells(CARRY);
                if (carry > most) {
                    most = carry;
                    best = g;
                }
            }
            return best;
        }

        void plan(int price) {
            seen.clear();
            rest.clear();
            for (int clock = 0; clock < CLOCKS; clock++) {
                seen.add();
                rest.add();
                countGoings(clock);
            }
            for (int clock = CLOCKS - 1; clock >= 0; clock--) {
                for (int door = 0; door < DOORS; door++) {
                    int on = Math.max(restFrom(clock + 1, door, 0, price), restFrom(clock + 1, door, 1, price));
                    rest.put(clock, door, seen.at(clock, door) + on);
                }
            }
        }

        private void countGoings(int clock) {
            int front = 0;
            int back = 0;
            for (int g = 0; g < house.guests.rows; g++) {
                if (!house.isOut(g)) {
                    law.face(g);
                    law.suppose(OF_CLOCK, clock);
                    int go = law.tells(GO);
                    int byFront = go * law.tells(FRONT) / THOUSAND;
                    front += byFront;
                    back += go - byFront;
                }
            }
            seen.put(clock, 0, front);
            seen.put(clock, 1, back);
        }

        private int restFrom(int clock, int was, int door, int price) {
            return clock >= CLOCKS ? 0 : rest.at(clock, door) - (was == door ? 0 : price);
        }

        int mostSeen() {
            return Math.max(rest.at(0, 0), rest.at(0, 1));
        }

        int doorAt(int clock, int price) {
            int door = rest.at(0, 0) >= rest.at(0, 1) ? 0 : 1;
            for (int c = 1; c <= clock && c < CLOCKS; c++) {
                door = restFrom(c, door, 0, price) >= restFrom(c, door, 1, price) ? 0 : 1;
            }
            return door;
        }
    }

    /** What the board and THE BOOK tell. */
    private static final class Records {
        private final House house;

        Records(House house) {
            this.house = house;
        }

        private boolean hangsWrong(int guest) {
            int hook = house.guests.at(guest, KEY);
            return hook != NONE && hook != guest;
        }

        int wrongHooks() {
            int set = 0;
            for (int g = 0; g < house.guests.rows; g++) {
                set |= hangsWrong(g) ? 1 << house.guests.at(g, KEY) : 0;
            }
            return set;
        }

        /** The guests in whose ring he is; nobody, if the way from hook to hook does not come back to him. */
        int ringOf(int guest) {
            int set = 0;
            int at = guest;
            for (int i = 0; i < MOST_GUESTS; i++) {
                if (!hangsWrong(at)) {
                    return 0;
                }
                set |= 1 << at;
                at = house.guests.at(at, KEY);
                if (at == guest) {
                    return set;
                }
            }
            return 0;
        }

        int ringCount() {
            int rings = 0;
            for (int g = 0; g < house.guests.rows; g++) {
                int ring = ringOf(g);
                boolean isLeast = (ring & (1 << g) - 1) == 0;
                // A ring counts once: where its least guest is met.
                rings += ring != 0 && isLeast ? 1 : 0;
            }
            return rings;
        }

        int longestOutWithKey() {
            int thief = NONE;
            int longest = NONE;
            for (int g = 0; g < house.guests.rows; g++) {
                boolean has = house.isOut(g) && house.guests.at(g, KEY) == NONE;
                if (has && house.guests.at(g, SINCE) > longest) {
                    longest = house.guests.at(g, SINCE);
                    thief = g;
                }
            }
            return thief;
        }

        int linesOf(int guest, boolean withClerk) {
            int lines = 0;
            for (int i = 0; i < house.book.rows; i++) {
                boolean isHis = house.book.at(i, BOOK_GUEST) == guest && house.book.at(i, BOOK_WHAT) != BY_HAND;
                boolean hasClerk = house.book.at(i, BOOK_CLERK) != NONE;
                lines += isHis && hasClerk == withClerk ? 1 : 0;
            }
            return lines;
        }

        int linesAt(int door, int what) {
            int lines = 0;
            for (int i = 0; i < house.book.rows; i++) {
                boolean isOne = house.book.at(i, BOOK_DOOR) == door && house.book.at(i, BOOK_WHAT) == what;
                lines += isOne ? 1 : 0;
            }
            return lines;
        }

        int outSeenBy(int clerk) {
            int set = 0;
            for (int g = 0; g < house.guests.rows; g++) {
                set |= house.isOut(g) && clerkOfLastGoing(g) == clerk ? 1 << g : 0;
            }
            return set;
        }

        private int clerkOfLastGoing(int guest) {
            for (int i = house.book.rows - 1; i >= 0; i--) {
                if (house.book.at(i, BOOK_GUEST) == guest && house.book.at(i, BOOK_WHAT) == WENT) {
                    return house.book.at(i, BOOK_CLERK);
                }
            }
            return NONE;
        }
    }

    /** Ways through rooms and floors. */
    private static final class Rounds {
        private final House house;
        private final Belief belief;
        private final int[] sures = new int[MOST_ROOMS];
        private final int[] onFloor = new int[FLOORS];
        private final int[] row = new int[FLOORS];
        final int[] bestRow = new int[FLOORS];
        int bestLength = 0;
        long mostFound = 0;

        Rounds(House house, Belief belief) {
            this.house = house;
            this.belief = belief;
        }

        int roomAt(int i) {
            for (int r = 0; r < house.rooms.rows; r++) {
                put(sures, r, belief.sureOf(house.rooms.at(r, ROOM_GUEST)));
            }
            for (int r = 0; r < house.rooms.rows; r++) {
                if (roomsBefore(r) == i) {
                    return r;
                }
            }
            return NONE;
        }

        private int roomsBefore(int room) {
            int before = 0;
            for (int r = 0; r < house.rooms.rows; r++) {
                boolean isLess = cell(sures, r) < cell(sures, room);
                boolean isSame = cell(sures, r) == cell(sures, room);
                before += isLess || (isSame && r < room) ? 1 : 0;
            }
            return before;
        }

        int bestRooms() {
            int best = 0;
            for (int set = 1; set < 1 << house.rooms.rows; set++) {
                if (canBeDone(set) && isBetter(set, best)) {
                    best = set;
                }
            }
            return best;
        }

        private boolean isBetter(int set, int best) {
            int more = worthOf(set) - worthOf(best);
            return more > 0 || (more == 0 && Integer.bitCount(set) < Integer.bitCount(best));
        }

        int worthOf(int set) {
            int worth = 0;
            for (int r = 0; r < house.rooms.rows; r++) {
                worth += (set >> r & 1) == 1 ? house.rooms.at(r, ROOM_WORTH) : 0;
            }
            return worth;
        }

        /** Done in the order of their whens, no order does better: so each when must hold all that are due by it. */
        private boolean canBeDone(int set) {
            for (int r = 0; r < house.rooms.rows; r++) {
                int when = house.rooms.at(r, ROOM_WHEN);
                if ((set >> r & 1) == 1 && minutesDueBy(set, when) > when) {
                    return false;
                }
            }
            return true;
        }

        private int minutesDueBy(int set, int when) {
            int minutes = 0;
            for (int r = 0; r < house.rooms.rows; r++) {
                boolean isDue = (set >> r & 1) == 1 && house.rooms.at(r, ROOM_WHEN) <= when;
                minutes += isDue ? house.rooms.at(r, ROOM_MINUTES) : 0;
            }
            return minutes;
        }

        void searchFloors(int minutes) {
            for (int f = 0; f < onFloor.length; f++) {
                onFloor[f] = 0;
            }
            for (int g = 0; g < house.guests.rows; g++) {
                int floor = house.guests.at(g, FLOOR);
                put(onFloor, floor, cell(onFloor, floor) + belief.sureOf(g));
            }
            mostFound = NONE;
            bestLength = 0;
            searchOn(minutes, 0, 0, 0, 0);
        }

        /** Rows come here in the order that ties ask for, so only a better one takes the place of the best. */
        private void searchOn(int minutes, int last, int searched, int length, long found) {
            if (found > mostFound) {
                mostFound = found;
                bestLength = length;
                for (int i = 0; i < length && i < FLOORS; i++) {
                    put(bestRow, i, cell(row, i));
                }
            }
            for (int f = 0; f < FLOORS && length < FLOORS; f++) {
                int left = minutes - 3 - 2 * Math.abs(f - last);
                if ((searched >> f & 1) == 0 && left >= 0) {
                    put(row, length, f);
                    searchOn(left, f, searched | 1 << f, length + 1, found + cell(onFloor, f));
                }
            }
        }
    }
}
