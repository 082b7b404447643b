/** The hire of a village hall, as DOC.md promises it. */
public final class VillageHall {
    public static final int INVALID_ARGUMENT = -2000000001;
    public static final int NOT_POSSIBLE = -2000000002;
    public static final int LIMIT_REACHED = -2000000003;
    public static final int NOT_FOUND = -2000000004;

    private static final int NONE = -1;

    private static final int LAST_DAY = 364;
    private static final int LAST_PRESENT_DAY = 400;
    private static final int MOST_DAYS_TO_PASS = 60;
    private static final int HOURS_OF_DAY = 24;
    private static final int EVENING_FROM = 18;
    private static final int FREE_FROM = 8;
    private static final int FREE_UP_TO = 23;

    private static final int ROOMS = 3;
    private static final int ALL_ROOMS = 7;
    private static final int KITCHEN_MASK = 2;
    private static final int KEYS = 6;
    private static final int MOST_HIRERS = 10;
    private static final int MOST_HIRES = 12;
    private static final int MOST_SESSIONS = 20;
    private static final int MOST_INTERVAL = 60;
    private static final int MOST_FAULTS = 8;
    private static final int MOST_STATES = 4;
    private static final int MOST_CHARACTERS = 80;
    private static final int MOST_DIGITS = 3;
    private static final int MOST_PAYMENT = 1000000;
    private static final int MOST_PAID = 100000000;

    private static final int EVENING_PERCENT = 3;
    private static final int GAP = 4;
    private static final int DEPOSIT = 5;
    private static final int LATE_FEE = 6;
    private static final int DAYS_FOR_KEYS = 7;
    private static final int SETTINGS = 8;
    private static final int[] SETTING_AT_FIRST = {1200, 800, 600, 25, 1, 5000, 300, 2};
    private static final int[] SETTING_AT_MOST = {5000, 5000, 5000, 100, 3, 50000, 5000, 30};

    private static final int PRICES = 0;
    private static final int REFUNDS = 1;
    private static final int DEPOSITS_TAKEN = 2;
    private static final int DEPOSITS_HELD = 3;
    private static final int KEPT_FOR_FAULTS = 4;
    private static final int KEPT_FOR_KEYS = 5;
    private static final int GIVEN_BACK = 6;
    private static final int BEYOND_DEPOSITS = 7;
    private static final int PAYMENTS = 8;
    private static final int ACCOUNTS = 9;

    private static final int PLANNED = 0;
    private static final int HELD = 1;
    private static final int CANCELLED = 2;

    private static final int NOT_SWEPT = 0;
    private static final int DISHES_LEFT = 1;
    private static final int BROKEN_CHAIR = 2;
    private static final int LEFT_LATE = 3;
    private static final int FAULT_FIELDS = 4;

    private static final int NO_FAULT = 0;
    private static final int BAD_FORM = 1;
    private static final int NO_SUCH_HIRER = 2;
    private static final int BAD_TIMES = 3;
    private static final int CLASHES = 4;
    private static final int HIRE_TOO_MANY = 5;

    private static final int FIRST_SETTING_COUNT = 10;
    private static final int FIRST_ACCOUNT_COUNT = 20;

    private final Books books;
    private final History history;
    private final Text text;
    private final Trial trial;
    private final Wish wish;
    private int latestClash;

    public VillageHall() {
        books = new Books();
        history = new History();
        text = new Text();
        trial = new Trial();
        wish = new Wish();
        latestClash = NONE;
    }

    // ---- hirers and settings

    public int addHirer() {
        if (books.hirers >= MOST_HIRERS) {
            return LIMIT_REACHED;
        }
        history.save(books);
        books.hirers++;
        return books.hirers - 1;
    }

    public int hirer(int hirer, int what) {
        if (!books.isHirer(hirer)) {
            return INVALID_ARGUMENT;
        }
        switch (what) {
            case 0:
                return books.charged[hirer];
            case 1:
                return books.paid[hirer];
            case 2:
                return books.charged[hirer] - books.paid[hirer];
            case 3:
                return books.hiresOf(hirer);
            case 4:
                return books.plannedOf(hirer);
            case 5:
                return books.keysOf(hirer);
            case 6:
                return books.faultsOf(hirer);
            default:
                return INVALID_ARGUMENT;
        }
    }

    public int pay(int hirer, int amount) {
        if (!books.isHirer(hirer) || amount < 1 || amount > MOST_PAYMENT) {
            return INVALID_ARGUMENT;
        }
        if (books.paid[hirer] + amount > MOST_PAID) {
            return LIMIT_REACHED;
        }
        history.save(books);
        books.credit(hirer, amount, PAYMENTS);
        return books.charged[hirer] - books.paid[hirer];
    }

    public int set(int what, int value) {
        if (what < 0 || what >= SETTINGS || value < 0 || value > SETTING_AT_MOST[what]) {
            return INVALID_ARGUMENT;
        }
        history.save(books);
        int previous = books.settings[what];
        books.settings[what] = value;
        return previous;
    }

    // ---- hires

    public int hire(int hirer, int rooms, int day, int hours, int sessions, int interval) {
        wish.hirer = hirer;
        wish.rooms = rooms;
        wish.takeHours(hours);
        wish.takeSeries(day, sessions, interval);
        if (!books.isHirer(hirer) || !areRooms(rooms) || !wish.isInRange(books.day)) {
            return INVALID_ARGUMENT;
        }
        if (wish.lastDay() > LAST_DAY) {
            return NOT_POSSIBLE;
        }
        int clashing = books.clashOf(wish);
        if (clashing != NONE) {
            latestClash = clashing;
            return NOT_POSSIBLE;
        }
        if (books.isFull()) {
            return LIMIT_REACHED;
        }
        history.save(books);
        return books.make(wish);
    }

    public int clash() {
        return latestClash == NONE ? NOT_FOUND : latestClash;
    }

    public int hireInfo(int hire, int what) {
        Hire found = books.hireAt(hire);
        if (found == null) {
            return INVALID_ARGUMENT;
        }
        return what == 14 ? books.keysFor(hire) : found.property(what);
    }

    public int session(int session, int what) {
        Hire hire = books.hireOfSession(session);
        if (hire == null) {
            return INVALID_ARGUMENT;
        }
        int index = session % MOST_SESSIONS;
        switch (what) {
            case 0:
                return hire.dayOf(index);
            case 1:
                return hire.stateOf(index);
            case 2:
                return hire.shareOf(index);
            case 3:
                return hire.stateOf(index) == PLANNED ? hire.refundOf(index, books.day) : NOT_FOUND;
            default:
                return INVALID_ARGUMENT;
        }
    }

    public int cancel(int session) {
        Hire hire = books.hireOfSession(session);
        if (hire == null) {
            return INVALID_ARGUMENT;
        }
        int index = session % MOST_SESSIONS;
        if (hire.stateOf(index) != PLANNED) {
            return NOT_POSSIBLE;
        }
        history.save(books);
        int refund = hire.refundOf(index, books.day);
        hire.cancelled |= 1 << index;
        books.credit(hire.hirer, refund, REFUNDS);
        return refund;
    }

    public int price(int rooms, int hours, int sessions) {
        wish.rooms = rooms;
        wish.takeHours(hours);
        wish.takeSeries(0, sessions, 1);
        if (!areRooms(rooms) || !wish.isInRange(0)) {
            return INVALID_ARGUMENT;
        }
        return books.priceOf(wish);
    }

    public int taken(int day, int rooms) {
        if (day < 0 || day > LAST_DAY || !areRooms(rooms)) {
            return INVALID_ARGUMENT;
        }
        return books.blockedHours(day, rooms, NONE, 0);
    }

    public int firstFree(int hirer, int rooms, int day, int length) {
        if (!books.isHirer(hirer) || !areRooms(rooms) || day < 0 || day > LAST_DAY
                || length < 1 || length > FREE_UP_TO - FREE_FROM) {
            return INVALID_ARGUMENT;
        }
        for (int free = Math.max(day, books.day); free <= LAST_DAY; free++) {
            int blocked = books.blockedHours(free, rooms, hirer, books.settings[GAP]);
            for (int from = FREE_FROM; from + length <= FREE_UP_TO; from++) {
                if ((blocked & hoursMask(from, from + length)) == 0) {
                    return 100 * free + from;
                }
            }
        }
        return NOT_FOUND;
    }

    public int inOrder(int index) {
        if (index < 0) {
            return INVALID_ARGUMENT;
        }
        int left = index;
        for (int day = 0; day <= LAST_DAY; day++) {
            int onDay = books.sessionsOn(day);
            if (left < onDay) {
                return books.sessionInOrder(day, left);
            }
            left -= onDay;
        }
        return NOT_FOUND;
    }

    // ---- days

    public int pass(int days) {
        if (days < 1 || days > MOST_DAYS_TO_PASS) {
            return INVALID_ARGUMENT;
        }
        if (books.day + days > LAST_PRESENT_DAY) {
            return LIMIT_REACHED;
        }
        history.save(books);
        int held = 0;
        for (int gone = 0; gone < days; gone++) {
            held += books.passDay();
        }
        return held;
    }

    public int count(int what) {
        switch (what) {
            case 0:
                return books.day;
            case 1:
                return books.hirers;
            case 2:
                return books.made;
            case 3:
                return books.sessionsNotCancelled();
            case 4:
                return books.keysFor(NONE);
            case 5:
                return books.lateKeys();
            case 6:
                return books.roomHoursHeld();
            case 7:
                return history.kept;
            case 8:
                return text.length;
            default:
                return settingOrAccount(what);
        }
    }

    private int settingOrAccount(int what) {
        if (what >= FIRST_SETTING_COUNT && what < FIRST_SETTING_COUNT + SETTINGS) {
            return books.settings[what - FIRST_SETTING_COUNT];
        }
        if (what >= FIRST_ACCOUNT_COUNT && what < FIRST_ACCOUNT_COUNT + ACCOUNTS) {
            return books.accounts[what - FIRST_ACCOUNT_COUNT];
        }
        return INVALID_ARGUMENT;
    }

    public int undo() {
        if (history.kept < 1) {
            return NOT_POSSIBLE;
        }
        history.restore(books);
        return history.kept;
    }

    // ---- keys

    public int lend(int key, int hire) {
        Key lent = books.keyAt(key);
        Hire found = books.hireAt(hire);
        if (lent == null || found == null) {
            return INVALID_ARGUMENT;
        }
        int lastPlanned = found.lastPlannedDay();
        if (lent.hire != NONE || lastPlanned == NONE || (found.rooms >> lent.room & 1) == 0) {
            return NOT_POSSIBLE;
        }
        history.save(books);
        lent.hire = hire;
        lent.due = lastPlanned + books.settings[DAYS_FOR_KEYS];
        return lent.due;
    }

    public int bringBack(int key) {
        Key back = books.keyAt(key);
        if (back == null) {
            return INVALID_ARGUMENT;
        }
        if (back.hire == NONE) {
            return NOT_POSSIBLE;
        }
        history.save(books);
        int late = back.daysLate(books.day);
        back.hire = NONE;
        return late;
    }

    public int key(int key, int what) {
        Key found = books.keyAt(key);
        if (found == null || what < 0 || what > 4) {
            return INVALID_ARGUMENT;
        }
        if (what == 0) {
            return found.room;
        }
        Hire hire = books.hireAt(found.hire);
        if (hire == null) {
            return NOT_FOUND;
        }
        switch (what) {
            case 1:
                return hire.hirer;
            case 2:
                return hire.number;
            case 3:
                return found.due;
            default:
                return found.daysLate(books.day);
        }
    }

    // ---- faults and deposits

    public int report(int session, int kind) {
        Hire hire = books.hireOfSession(session);
        if (hire == null || kind < NOT_SWEPT || kind > LEFT_LATE) {
            return INVALID_ARGUMENT;
        }
        if (hire.stateOf(session % MOST_SESSIONS) != HELD || hire.settled || !hire.canHaveFault(kind)) {
            return NOT_POSSIBLE;
        }
        if (hire.faults >= MOST_FAULTS) {
            return LIMIT_REACHED;
        }
        history.save(books);
        int cost = hire.costOfFault(kind);
        int fromDeposit = books.takeFromDeposit(hire, cost, KEPT_FOR_FAULTS);
        hire.addFault(kind, session, cost, fromDeposit);
        return cost;
    }

    public int fault(int hire, int index, int what) {
        Hire found = books.hireAt(hire);
        if (found == null || index < 0 || what < 0 || what >= FAULT_FIELDS) {
            return INVALID_ARGUMENT;
        }
        return found.faultProperty(index, what);
    }

    public int settle(int hire) {
        Hire found = books.hireAt(hire);
        if (found == null) {
            return INVALID_ARGUMENT;
        }
        if (found.settled || found.plannedSessions() > 0 || books.keysFor(hire) > 0) {
            return NOT_POSSIBLE;
        }
        history.save(books);
        return books.giveDepositBack(found);
    }

    // ---- texts

    public int type(int character) {
        if (character < 32 || character > 126) {
            return INVALID_ARGUMENT;
        }
        return text.append(character) ? text.length : LIMIT_REACHED;
    }

    public int clearText() {
        int previous = text.length;
        text.length = 0;
        return previous;
    }

    public int textFault(int what) {
        if (what < 0 || what > 1) {
            return INVALID_ARGUMENT;
        }
        trial.run(books, text);
        if (trial.reason == NO_FAULT) {
            return NOT_FOUND;
        }
        return what == 0 ? trial.position : trial.reason;
    }

    public int enter() {
        trial.run(books, text);
        if (trial.reason == CLASHES) {
            latestClash = trial.clashing;
        }
        if (trial.reason != NO_FAULT) {
            return NOT_POSSIBLE;
        }
        history.save(books);
        books.copyFrom(trial.books);
        return trial.entered;
    }

    private static boolean areRooms(int rooms) {
        return rooms >= 1 && rooms <= ALL_ROOMS;
    }

    /** Hours outside the day are left out, so that gaps may reach over its ends. */
    private static int hoursMask(int from, int to) {
        int first = Math.min(Math.max(from, 0), HOURS_OF_DAY);
        int end = Math.min(Math.max(to, first), HOURS_OF_DAY);
        return (1 << end) - (1 << first);
    }

    private static int discountOf(int sessions) {
        if (sessions < 4) {
            return 0;
        }
        return sessions < 10 ? 10 : 20;
    }

    /** What is asked for by a call of hire or by a hire of the text, before it is a hire. */
    private static final class Wish {
        int hirer;
        int rooms;
        int from;
        int to;
        int firstDay;
        int sessions;
        int interval;

        void takeHours(int hours) {
            from = hours < 0 ? NONE : hours / 100;
            to = hours < 0 ? NONE : hours % 100;
        }

        void takeSeries(int day, int number, int days) {
            firstDay = day;
            sessions = number;
            interval = days;
        }

        boolean isInRange(int presentDay) {
            return firstDay >= presentDay && firstDay <= LAST_DAY
                    && from >= 0 && from < to && to <= HOURS_OF_DAY
                    && sessions >= 1 && sessions <= MOST_SESSIONS
                    && interval >= 1 && interval <= MOST_INTERVAL;
        }

        /** Only for a wish that is in range: other numbers may be too large to multiply. */
        int lastDay() {
            return firstDay + (sessions - 1) * interval;
        }
    }

    /** A row that is not made yet has no hirer and no sessions, so that loops over all rows pass it by. */
    private static final class Hire {
        final int number;
        int hirer;
        int rooms;
        int from;
        int to;
        int sessions;
        int firstDay;
        int interval;
        int price;
        int held;
        int cancelled;
        int deposit;
        int faults;
        boolean settled;
        final int[] faultRows;

        Hire(int ownNumber) {
            number = ownNumber;
            hirer = NONE;
            faultRows = new int[MOST_FAULTS * FAULT_FIELDS];
        }

        void copyFrom(Hire other) {
            hirer = other.hirer;
            rooms = other.rooms;
            from = other.from;
            to = other.to;
            sessions = other.sessions;
            firstDay = other.firstDay;
            interval = other.interval;
            price = other.price;
            held = other.held;
            cancelled = other.cancelled;
            deposit = other.deposit;
            faults = other.faults;
            settled = other.settled;
            System.arraycopy(other.faultRows, 0, faultRows, 0, faultRows.length);
        }

        /** All else is as in a row that was never made: undo restores the whole row. */
        void begin(Wish wish, int itsPrice, int itsDeposit) {
            hirer = wish.hirer;
            rooms = wish.rooms;
            from = wish.from;
            to = wish.to;
            sessions = wish.sessions;
            firstDay = wish.firstDay;
            interval = wish.interval;
            price = itsPrice;
            deposit = itsDeposit;
        }

        int property(int what) {
            switch (what) {
                case 0:
                    return hirer;
                case 1:
                    return rooms;
                case 2:
                    return from;
                case 3:
                    return to;
                case 4:
                    return sessions;
                case 5:
                    return firstDay;
                case 6:
                    return interval;
                case 7:
                    return price;
                case 8:
                    return discountOf(sessions);
                case 9:
                    return plannedSessions();
                case 10:
                    return Integer.bitCount(held);
                case 11:
                    return Integer.bitCount(cancelled);
                case 12:
                    return deposit;
                case 13:
                    return faults;
                case 15:
                    return settled ? 1 : 0;
                default:
                    return INVALID_ARGUMENT;
            }
        }

        int dayOf(int index) {
            return firstDay + index * interval;
        }

        int stateOf(int index) {
            if ((held >> index & 1) == 1) {
                return HELD;
            }
            return (cancelled >> index & 1) == 1 ? CANCELLED : PLANNED;
        }

        int plannedSessions() {
            return sessions - Integer.bitCount(held | cancelled);
        }

        int lastPlannedDay() {
            for (int index = sessions - 1; index >= 0; index--) {
                if (stateOf(index) == PLANNED) {
                    return dayOf(index);
                }
            }
            return NONE;
        }

        int shareOf(int index) {
            if (sessions < 1) {
                return 0;
            }
            return price / sessions + (index < price % sessions ? 1 : 0);
        }

        int refundOf(int index, int presentDay) {
            int ahead = dayOf(index) - presentDay;
            if (ahead >= 14) {
                return shareOf(index);
            }
            return ahead >= 7 ? shareOf(index) / 2 : 0;
        }

        /** The index of the session of a day, if it is not cancelled; a day has at most one. */
        int indexOn(int day) {
            int ahead = day - firstDay;
            if (interval < 1 || ahead < 0 || ahead % interval != 0) {
                return NONE;
            }
            int index = ahead / interval;
            return index < sessions && (cancelled >> index & 1) == 0 ? index : NONE;
        }

        boolean isOn(int day) {
            return indexOn(day) != NONE;
        }

        boolean isAheadOnDay(Hire other) {
            return from < other.from || from == other.from && number < other.number;
        }

        int roomHoursHeld() {
            return Integer.bitCount(held) * Integer.bitCount(rooms) * (to - from);
        }

        boolean canHaveFault(int kind) {
            return kind != DISHES_LEFT || (rooms & KITCHEN_MASK) != 0;
        }

        int costOfFault(int kind) {
            switch (kind) {
                case NOT_SWEPT:
                    return 1000 * Integer.bitCount(rooms);
                case DISHES_LEFT:
                    return 2500;
                case BROKEN_CHAIR:
                    return 4000;
                default:
                    return 2000 + 500 * timesLeftLate();
            }
        }

        int timesLeftLate() {
            int times = 0;
            for (int index = 0; index < faults; index++) {
                if (faultProperty(index, 0) == LEFT_LATE) {
                    times++;
                }
            }
            return times;
        }

        void addFault(int kind, int session, int cost, int fromDeposit) {
            int row = faults * FAULT_FIELDS;
            if (row < 0 || row + FAULT_FIELDS > faultRows.length) {
                return;
            }
            faultRows[row] = kind;
            faultRows[row + 1] = session;
            faultRows[row + 2] = cost;
            faultRows[row + 3] = fromDeposit;
            faults++;
        }

        int faultProperty(int index, int what) {
            if (index < 0 || index >= faults || index >= MOST_FAULTS || what < 0 || what >= FAULT_FIELDS) {
                return NOT_FOUND;
            }
            return faultRows[index * FAULT_FIELDS + what];
        }
    }

    private static final class Key {
        final int room;
        int hire;
        int due;

        Key(int itsRoom) {
            room = itsRoom;
            hire = NONE;
        }

        void copyFrom(Key other) {
            hire = other.hire;
            due = other.due;
        }

        int daysLate(int presentDay) {
            return hire == NONE ? 0 : Math.max(0, presentDay - due);
        }
    }

    /** All that a state of the history records. */
    private static final class Books {
        int day;
        int hirers;
        int made;
        final int[] settings;
        final int[] accounts;
        final int[] charged;
        final int[] paid;
        final Hire[] hires;
        final Key[] keys;

        Books() {
            settings = SETTING_AT_FIRST.clone();
            accounts = new int[ACCOUNTS];
            charged = new int[MOST_HIRERS];
            paid = new int[MOST_HIRERS];
            hires = new Hire[MOST_HIRES];
            for (int number = 0; number < hires.length; number++) {
                hires[number] = new Hire(number);
            }
            keys = new Key[KEYS];
            for (int number = 0; number < keys.length; number++) {
                keys[number] = new Key(number % ROOMS);
            }
        }

        void copyFrom(Books other) {
            day = other.day;
            hirers = other.hirers;
            made = other.made;
            System.arraycopy(other.settings, 0, settings, 0, settings.length);
            System.arraycopy(other.accounts, 0, accounts, 0, accounts.length);
            System.arraycopy(other.charged, 0, charged, 0, charged.length);
            System.arraycopy(other.paid, 0, paid, 0, paid.length);
            for (int number = 0; number < hires.length; number++) {
                hires[number].copyFrom(other.hires[number]);
            }
            for (int number = 0; number < keys.length; number++) {
                keys[number].copyFrom(other.keys[number]);
            }
        }

        boolean isHirer(int number) {
            return number >= 0 && number < hirers && number < MOST_HIRERS;
        }

        boolean isFull() {
            return made >= MOST_HIRES;
        }

        /** Null if there is no such hire. */
        Hire hireAt(int number) {
            return number >= 0 && number < made && number < hires.length ? hires[number] : null;
        }

        /** Null if there is no such session. */
        Hire hireOfSession(int number) {
            if (number < 0) {
                return null;
            }
            Hire hire = hireAt(number / MOST_SESSIONS);
            return hire != null && number % MOST_SESSIONS < hire.sessions ? hire : null;
        }

        /** Null if there is no such key. */
        Key keyAt(int number) {
            return number >= 0 && number < keys.length ? keys[number] : null;
        }

        int hiresOf(int hirer) {
            int number = 0;
            for (Hire hire : hires) {
                number += hire.hirer == hirer ? 1 : 0;
            }
            return number;
        }

        int plannedOf(int hirer) {
            int number = 0;
            for (Hire hire : hires) {
                number += hire.hirer == hirer ? hire.plannedSessions() : 0;
            }
            return number;
        }

        int faultsOf(int hirer) {
            int number = 0;
            for (Hire hire : hires) {
                number += hire.hirer == hirer ? hire.faults : 0;
            }
            return number;
        }

        int keysOf(int hirer) {
            int number = 0;
            for (Hire hire : hires) {
                number += hire.hirer == hirer ? keysFor(hire.number) : 0;
            }
            return number;
        }

        /** With NONE instead of a hire: the keys in the box. */
        int keysFor(int hire) {
            int number = 0;
            for (Key key : keys) {
                number += key.hire == hire ? 1 : 0;
            }
            return number;
        }

        int lateKeys() {
            int number = 0;
            for (Key key : keys) {
                number += key.daysLate(day) > 0 ? 1 : 0;
            }
            return number;
        }

        int sessionsNotCancelled() {
            int number = 0;
            for (Hire hire : hires) {
                number += hire.sessions - Integer.bitCount(hire.cancelled);
            }
            return number;
        }

        int roomHoursHeld() {
            int hours = 0;
            for (Hire hire : hires) {
                hours += hire.roomHoursHeld();
            }
            return hours;
        }

        int priceOf(Wish wish) {
            int sum = wish.sessions * priceOfSession(wish);
            return sum - sum * discountOf(wish.sessions) / 100;
        }

        int priceOfSession(Wish wish) {
            int hours = wish.to - wish.from;
            int eveningHours = Math.max(0, wish.to - Math.max(wish.from, EVENING_FROM));
            int sum = 0;
            for (int room = 0; room < ROOMS; room++) {
                if ((wish.rooms >> room & 1) == 1) {
                    // The evening's part is rounded down for each hour, not for all of them together.
                    int eveningPart = settings[room] * settings[EVENING_PERCENT] / 100;
                    sum += settings[room] * hours + eveningPart * eveningHours;
                }
            }
            return sum;
        }

        /** The hours of a day at which these rooms are hired, and the gap around those hired by others. */
        int blockedHours(int onDay, int rooms, int hirer, int gap) {
            int hours = 0;
            for (Hire hire : hires) {
                if ((hire.rooms & rooms) != 0 && hire.isOn(onDay)) {
                    int around = hire.hirer == hirer ? 0 : gap;
                    hours |= hoursMask(hire.from - around, hire.to + around);
                }
            }
            return hours;
        }

        /** The number of the session that stands against a wish in range, or NONE. */
        int clashOf(Wish wish) {
            for (int index = 0; index < wish.sessions; index++) {
                int clashing = clashOn(wish.firstDay + index * wish.interval, wish);
                if (clashing != NONE) {
                    return clashing;
                }
            }
            return NONE;
        }

        int clashOn(int onDay, Wish wish) {
            Hire earliest = null;
            for (Hire hire : hires) {
                if (hire.isOn(onDay) && standsAgainst(hire, wish)
                        && (earliest == null || hire.isAheadOnDay(earliest))) {
                    earliest = hire;
                }
            }
            return earliest == null ? NONE : sessionNumber(earliest, onDay);
        }

        boolean standsAgainst(Hire hire, Wish wish) {
            int gap = hire.hirer == wish.hirer ? 0 : settings[GAP];
            return (hire.rooms & wish.rooms) != 0
                    && wish.from < hire.to + gap && hire.from < wish.to + gap;
        }

        int sessionNumber(Hire hire, int onDay) {
            return hire.number * MOST_SESSIONS + hire.indexOn(onDay);
        }

        int sessionsOn(int onDay) {
            int number = 0;
            for (Hire hire : hires) {
                number += hire.isOn(onDay) ? 1 : 0;
            }
            return number;
        }

        int sessionInOrder(int onDay, int place) {
            for (Hire hire : hires) {
                if (hire.isOn(onDay) && aheadOnDay(hire, onDay) == place) {
                    return sessionNumber(hire, onDay);
                }
            }
            return NOT_FOUND;
        }

        int aheadOnDay(Hire hire, int onDay) {
            int number = 0;
            for (Hire other : hires) {
                number += other.isOn(onDay) && other.isAheadOnDay(hire) ? 1 : 0;
            }
            return number;
        }

        /** Makes a hire of a wish that is possible; the books must not be full. */
        int make(Wish wish) {
            if (made < 0 || made >= hires.length) {
                return LIMIT_REACHED;
            }
            int price = priceOf(wish);
            int deposit = settings[DEPOSIT];
            hires[made].begin(wish, price, deposit);
            made++;
            charge(wish.hirer, price, PRICES);
            charge(wish.hirer, deposit, DEPOSITS_TAKEN);
            accounts[DEPOSITS_HELD] += deposit;
            return made - 1;
        }

        void charge(int hirer, int amount, int account) {
            if (isHirer(hirer) && account >= 0 && account < ACCOUNTS) {
                charged[hirer] += amount;
                accounts[account] += amount;
            }
        }

        void credit(int hirer, int amount, int account) {
            if (isHirer(hirer) && account >= 0 && account < ACCOUNTS) {
                paid[hirer] += amount;
                accounts[account] += amount;
            }
        }

        /** Returns how much of the amount the deposit bears; the hirer is charged the rest. */
        int takeFromDeposit(Hire hire, int amount, int account) {
            if (account < 0 || account >= ACCOUNTS) {
                return 0;
            }
            int kept = Math.min(amount, hire.deposit);
            hire.deposit -= kept;
            accounts[DEPOSITS_HELD] -= kept;
            accounts[account] += kept;
            charge(hire.hirer, amount - kept, BEYOND_DEPOSITS);
            return kept;
        }

        int giveDepositBack(Hire hire) {
            int back = hire.deposit;
            hire.deposit = 0;
            hire.settled = true;
            accounts[DEPOSITS_HELD] -= back;
            credit(hire.hirer, back, GIVEN_BACK);
            return back;
        }

        /** Returns how many sessions are held on the day that goes by. */
        int passDay() {
            int number = 0;
            for (Hire hire : hires) {
                int index = hire.indexOn(day);
                if (index != NONE) {
                    hire.held |= 1 << index;
                    number++;
                }
            }
            day++;
            takeLateFees();
            return number;
        }

        void takeLateFees() {
            for (Key key : keys) {
                Hire hire = hireAt(key.hire);
                if (hire != null && key.daysLate(day) > 0) {
                    takeFromDeposit(hire, settings[LATE_FEE], KEPT_FOR_KEYS);
                }
            }
        }
    }

    /** The latest states; their rows are made once, and used again. */
    private static final class History {
        final Books[] states;
        int kept;

        History() {
            states = new Books[MOST_STATES];
            for (int place = 0; place < states.length; place++) {
                states[place] = new Books();
            }
        }

        void save(Books books) {
            if (kept >= states.length) {
                dropOldest();
            }
            if (kept >= 0 && kept < states.length) {
                states[kept].copyFrom(books);
                kept++;
            }
        }

        void dropOldest() {
            Books oldest = states[0];
            for (int place = 1; place < states.length; place++) {
                states[place - 1] = states[place];
            }
            states[states.length - 1] = oldest;
            kept--;
        }

        void restore(Books books) {
            if (kept >= 1 && kept <= states.length) {
                kept--;
                books.copyFrom(states[kept]);
            }
        }
    }

    /** The text, and the place up to which it is read. */
    private static final class Text {
        final int[] characters;
        int length;
        int place;

        Text() {
            characters = new int[MOST_CHARACTERS];
        }

        boolean append(int character) {
            if (length < 0 || length >= characters.length) {
                return false;
            }
            characters[length] = character;
            length++;
            return true;
        }

        boolean isRead() {
            return place >= length;
        }

        /** Reads a hire with its ";"; false if it is not of the form. */
        boolean readHire(Wish wish) {
            wish.hirer = readNumber(1);
            if (wish.hirer == NONE || !skip(':')) {
                return false;
            }
            wish.firstDay = readNumber(MOST_DIGITS);
            if (wish.firstDay == NONE || !skip('@')) {
                return false;
            }
            wish.from = readNumber(MOST_DIGITS);
            if (wish.from == NONE || !skip('-')) {
                return false;
            }
            wish.to = readNumber(MOST_DIGITS);
            if (wish.to == NONE || !skip('/')) {
                return false;
            }
            wish.rooms = readRooms();
            return wish.rooms != 0 && readSeries(wish) && skip(';');
        }

        int readRooms() {
            int rooms = skip('h') ? 1 : 0;
            rooms |= skip('k') ? 2 : 0;
            rooms |= skip('m') ? 4 : 0;
            return rooms;
        }

        boolean readSeries(Wish wish) {
            wish.sessions = 1;
            wish.interval = 1;
            if (!skip('x')) {
                return true;
            }
            wish.sessions = readNumber(MOST_DIGITS);
            if (wish.sessions == NONE || !skip('+')) {
                return false;
            }
            wish.interval = readNumber(MOST_DIGITS);
            return wish.interval != NONE;
        }

        /** NONE if no digit stands here. */
        int readNumber(int mostDigits) {
            int number = NONE;
            for (int digits = 0; digits < mostDigits && isDigitHere(); digits++) {
                number = 10 * Math.max(number, 0) + here() - '0';
                place++;
            }
            return number;
        }

        boolean isDigitHere() {
            return here() >= '0' && here() <= '9';
        }

        boolean skip(char character) {
            if (here() != character) {
                return false;
            }
            place++;
            return true;
        }

        /** NONE behind the end. */
        int here() {
            return place >= 0 && place < length && place < characters.length ? characters[place] : NONE;
        }
    }

    /** Makes the hires of a text in books of its own, so that a fault leaves the hall's as they are. */
    private static final class Trial {
        final Books books;
        final Wish wish;
        int position;
        int reason;
        int clashing;
        int entered;

        Trial() {
            books = new Books();
            wish = new Wish();
        }

        void run(Books start, Text text) {
            books.copyFrom(start);
            reason = NO_FAULT;
            entered = 0;
            text.place = 0;
            for (int hires = 0; hires < MOST_CHARACTERS && !text.isRead(); hires++) {
                position = text.place;
                reason = text.readHire(wish) ? reasonAgainst() : BAD_FORM;
                if (reason != NO_FAULT) {
                    return;
                }
                books.make(wish);
                entered++;
            }
        }

        int reasonAgainst() {
            if (!books.isHirer(wish.hirer)) {
                return NO_SUCH_HIRER;
            }
            if (!wish.isInRange(books.day) || wish.lastDay() > LAST_DAY) {
                return BAD_TIMES;
            }
            clashing = books.clashOf(wish);
            if (clashing != NONE) {
                return CLASHES;
            }
            return books.isFull() ? HIRE_TOO_MANY : NO_FAULT;
        }
    }
}
