import java.util.ArrayList;
import java.util.Comparator;
import java.util.List;
import java.util.regex.Matcher;
import java.util.regex.Pattern;

/**
 * The document once more, in the slowest and plainest way: every session is an object, every
 * state a deep copy, every account is added up anew from a list of bookings. RandomRunsTest
 * compares its answers with those of VillageHall.
 */
final class PlainHall {
    private static final int INVALID = -2000000001;
    private static final int NOT_POSSIBLE = -2000000002;
    private static final int LIMIT = -2000000003;
    private static final int NOT_FOUND = -2000000004;
    private static final Pattern FORM = Pattern.compile(
            "(\\d):(\\d{1,3})@(\\d{1,3})-(\\d{1,3})/(?!;|x)(h?)(k?)(m?)(?:x(\\d{1,3})\\+(\\d{1,3}))?;");

    private record Booking(int account, int hirer, int amount) { }

    private record Fault(int kind, int session, int cost, int taken) { }

    private static final class Session {
        int hire;
        int number;
        int hirer;
        int rooms;
        int day;
        int from;
        int to;
        int share;
        int state;

        Session copy() {
            Session copy = new Session();
            copy.hire = hire;
            copy.number = number;
            copy.hirer = hirer;
            copy.rooms = rooms;
            copy.day = day;
            copy.from = from;
            copy.to = to;
            copy.share = share;
            copy.state = state;
            return copy;
        }
    }

    private static final class Hire {
        int[] asked;
        int price;
        int held;
        boolean settled;
        List<Fault> faults = new ArrayList<>();

        Hire copy() {
            Hire copy = new Hire();
            copy.asked = asked.clone();
            copy.price = price;
            copy.held = held;
            copy.settled = settled;
            copy.faults = new ArrayList<>(faults);
            return copy;
        }
    }

    private static final class State {
        int day;
        int hirers;
        int[] settings = {1200, 800, 600, 25, 1, 5000, 300, 2};
        List<Booking> bookings = new ArrayList<>();
        List<Hire> hires = new ArrayList<>();
        List<Session> sessions = new ArrayList<>();
        Integer[] keyHire = new Integer[6];
        int[] keyDue = new int[6];

        State copy() {
            State copy = new State();
            copy.day = day;
            copy.hirers = hirers;
            copy.settings = settings.clone();
            copy.bookings = new ArrayList<>(bookings);
            for (Hire hire : hires) {
                copy.hires.add(hire.copy());
            }
            for (Session session : sessions) {
                copy.sessions.add(session.copy());
            }
            copy.keyHire = keyHire.clone();
            copy.keyDue = keyDue.clone();
            return copy;
        }
    }

    private State now = new State();
    private final List<State> history = new ArrayList<>();
    private String text = "";
    private int clash = NOT_FOUND;

    private void change() {
        history.add(now.copy());
        if (history.size() == 5) {
            history.remove(0);
        }
    }

    private void book(int account, int hirer, int amount) {
        now.bookings.add(new Booking(account, hirer, amount));
    }

    /** Accounts 1, 6 and 8 are credited to a hirer; 0, 2 and 7 are charged; 4 and 5 are within the hall. */
    private int account(int account, int hirer) {
        int sum = 0;
        for (Booking booking : now.bookings) {
            if (booking.account == account && (hirer < 0 || booking.hirer == hirer)) {
                sum += booking.amount;
            }
        }
        return sum;
    }

    private int charged(int hirer) {
        return account(0, hirer) + account(2, hirer) + account(7, hirer);
    }

    private int paid(int hirer) {
        return account(1, hirer) + account(6, hirer) + account(8, hirer);
    }

    private boolean noHirer(int hirer) {
        return hirer < 0 || hirer >= now.hirers;
    }

    private boolean noHire(int hire) {
        return hire < 0 || hire >= now.hires.size();
    }

    private Session find(int number) {
        for (Session session : now.sessions) {
            if (session.number == number) {
                return session;
            }
        }
        return null;
    }

    private List<Session> of(int hire, int state) {
        List<Session> found = new ArrayList<>();
        for (Session session : now.sessions) {
            if (session.hire == hire && session.state == state) {
                found.add(session);
            }
        }
        return found;
    }

    int addHirer() {
        if (now.hirers == 10) {
            return LIMIT;
        }
        change();
        return now.hirers++;
    }

    int hirer(int hirer, int what) {
        if (noHirer(hirer) || what < 0 || what > 6) {
            return INVALID;
        }
        int hires = 0;
        int planned = 0;
        int keys = 0;
        int faults = 0;
        for (int h = 0; h < now.hires.size(); h++) {
            if (now.hires.get(h).asked[0] == hirer) {
                hires++;
                planned += of(h, 0).size();
                faults += now.hires.get(h).faults.size();
                keys += keysFor(h);
            }
        }
        return new int[] {charged(hirer), paid(hirer), charged(hirer) - paid(hirer), hires, planned, keys,
            faults}[what];
    }

    private int keysFor(int hire) {
        int keys = 0;
        for (Integer lent : now.keyHire) {
            if (lent != null && lent == hire) {
                keys++;
            }
        }
        return keys;
    }

    int pay(int hirer, int amount) {
        if (noHirer(hirer) || amount < 1 || amount > 1000000) {
            return INVALID;
        }
        if (paid(hirer) + amount > 100000000) {
            return LIMIT;
        }
        change();
        book(8, hirer, amount);
        return charged(hirer) - paid(hirer);
    }

    int set(int what, int value) {
        int[] most = {5000, 5000, 5000, 100, 3, 50000, 5000, 30};
        if (what < 0 || what > 7 || value < 0 || value > most[what]) {
            return INVALID;
        }
        change();
        int old = now.settings[what];
        now.settings[what] = value;
        return old;
    }

    private static boolean badHours(int a, int b) {
        return a < 0 || a > 23 || b <= a || b > 24;
    }

    private static boolean badRooms(int rooms) {
        return rooms < 1 || rooms > 7;
    }

    /** asked: hirer, rooms, day, from, to, sessions, interval. */
    private boolean badTimes(int[] asked) {
        return asked[2] < now.day || asked[2] > 364 || badHours(asked[3], asked[4])
                || asked[5] < 1 || asked[5] > 20 || asked[6] < 1 || asked[6] > 60;
    }

    private int clashing(int[] asked) {
        for (int k = 0; k < asked[5]; k++) {
            List<Session> found = new ArrayList<>();
            for (Session session : now.sessions) {
                if (session.state != 2 && session.day == asked[2] + k * asked[6]
                        && clash(session, asked[0], asked[1], asked[3], asked[4])) {
                    found.add(session);
                }
            }
            if (!found.isEmpty()) {
                found.sort(Comparator.<Session>comparingInt(s -> s.from).thenComparingInt(s -> s.number));
                return found.get(0).number;
            }
        }
        return -1;
    }

    private boolean clash(Session old, int hirer, int rooms, int from, int to) {
        if ((old.rooms & rooms) == 0) {
            return false;
        }
        if (old.from < to && from < old.to) {
            return true;
        }
        boolean tooSoon = from >= old.to && from - old.to < now.settings[4]
                || old.from >= to && old.from - to < now.settings[4];
        return old.hirer != hirer && tooSoon;
    }

    private int cost(int rooms, int from, int to, int sessions) {
        int one = 0;
        for (int hour = from; hour < to; hour++) {
            for (int room = 0; room < 3; room++) {
                if ((rooms & 1 << room) != 0) {
                    one += now.settings[room];
                    if (hour >= 18) {
                        one += now.settings[room] * now.settings[3] / 100;
                    }
                }
            }
        }
        int sum = 0;
        for (int k = 0; k < sessions; k++) {
            sum += one;
        }
        return sum - sum * discount(sessions) / 100;
    }

    private static int discount(int sessions) {
        if (sessions >= 10) {
            return 20;
        }
        return sessions >= 4 ? 10 : 0;
    }

    private int make(int[] asked) {
        Hire hire = new Hire();
        int number = now.hires.size();
        hire.asked = asked.clone();
        hire.price = cost(asked[1], asked[3], asked[4], asked[5]);
        hire.held = now.settings[5];
        now.hires.add(hire);
        book(0, asked[0], hire.price);
        book(2, asked[0], hire.held);
        for (int k = 0; k < asked[5]; k++) {
            Session session = new Session();
            session.hire = number;
            session.number = 20 * number + k;
            session.hirer = asked[0];
            session.rooms = asked[1];
            session.day = asked[2] + k * asked[6];
            session.from = asked[3];
            session.to = asked[4];
            session.share = hire.price / asked[5];
            if (k < hire.price % asked[5]) {
                session.share++;
            }
            now.sessions.add(session);
        }
        return number;
    }

    int hire(int hirer, int rooms, int day, int hours, int sessions, int interval) {
        int[] asked = {hirer, rooms, day, Math.floorDiv(hours, 100), Math.floorMod(hours, 100), sessions, interval};
        if (noHirer(hirer) || badRooms(rooms) || badTimes(asked)) {
            return INVALID;
        }
        if (day + (sessions - 1) * interval > 364) {
            return NOT_POSSIBLE;
        }
        int stands = clashing(asked);
        if (stands >= 0) {
            clash = stands;
            return NOT_POSSIBLE;
        }
        if (now.hires.size() == 12) {
            return LIMIT;
        }
        change();
        return make(asked);
    }

    int clash() {
        return clash;
    }

    int hireInfo(int number, int what) {
        if (noHire(number) || what < 0 || what > 15) {
            return INVALID;
        }
        Hire hire = now.hires.get(number);
        int[] asked = hire.asked;
        return new int[] {asked[0], asked[1], asked[3], asked[4], asked[5], asked[2], asked[6], hire.price,
            discount(asked[5]), of(number, 0).size(), of(number, 1).size(), of(number, 2).size(), hire.held,
            hire.faults.size(), keysFor(number), hire.settled ? 1 : 0}[what];
    }

    private int refund(Session session) {
        int ahead = session.day - now.day;
        int percent = ahead >= 14 ? 100 : ahead >= 7 ? 50 : 0;
        return session.share * percent / 100;
    }

    int session(int number, int what) {
        Session session = find(number);
        if (session == null || what < 0 || what > 3) {
            return INVALID;
        }
        if (what == 3) {
            return session.state == 0 && session.day >= now.day ? refund(session) : NOT_FOUND;
        }
        return new int[] {session.day, session.state, session.share}[what];
    }

    int cancel(int number) {
        Session session = find(number);
        if (session == null) {
            return INVALID;
        }
        if (session.state != 0 || session.day < now.day) {
            return NOT_POSSIBLE;
        }
        change();
        int back = refund(session);
        session.state = 2;
        book(1, session.hirer, back);
        return back;
    }

    int price(int rooms, int hours, int sessions) {
        int a = Math.floorDiv(hours, 100);
        int b = Math.floorMod(hours, 100);
        if (badRooms(rooms) || badHours(a, b) || sessions < 1 || sessions > 20) {
            return INVALID;
        }
        return cost(rooms, a, b, sessions);
    }

    int taken(int day, int rooms) {
        if (day < 0 || day > 364 || badRooms(rooms)) {
            return INVALID;
        }
        int mask = 0;
        for (Session session : now.sessions) {
            for (int hour = session.from; hour < session.to; hour++) {
                if (session.state != 2 && session.day == day && (session.rooms & rooms) != 0) {
                    mask |= 1 << hour;
                }
            }
        }
        return mask;
    }

    int firstFree(int hirer, int rooms, int day, int length) {
        if (noHirer(hirer) || badRooms(rooms) || day < 0 || day > 364 || length < 1 || length > 15) {
            return INVALID;
        }
        for (int d = Math.max(day, now.day); d <= 364; d++) {
            for (int a = 8; a + length <= 23; a++) {
                if (clashing(new int[] {hirer, rooms, d, a, a + length, 1, 1}) < 0) {
                    return 100 * d + a;
                }
            }
        }
        return NOT_FOUND;
    }

    int inOrder(int index) {
        if (index < 0) {
            return INVALID;
        }
        List<Session> list = new ArrayList<>(now.sessions);
        list.removeIf(s -> s.state == 2);
        list.sort(Comparator.<Session>comparingInt(s -> s.day).thenComparingInt(s -> s.from)
                .thenComparingInt(s -> s.number));
        return index < list.size() ? list.get(index).number : NOT_FOUND;
    }

    int pass(int days) {
        if (days < 1 || days > 60) {
            return INVALID;
        }
        if (now.day + days > 400) {
            return LIMIT;
        }
        change();
        int held = 0;
        for (int d = 0; d < days; d++) {
            for (Session session : now.sessions) {
                if (session.state == 0 && session.day == now.day) {
                    session.state = 1;
                    held++;
                }
            }
            now.day++;
            for (int key = 0; key < 6; key++) {
                if (late(key) > 0) {
                    takeCost(now.hires.get(now.keyHire[key]), now.settings[6], 5);
                }
            }
        }
        return held;
    }

    private int late(int key) {
        return now.keyHire[key] == null || now.day <= now.keyDue[key] ? 0 : now.day - now.keyDue[key];
    }

    private int takeCost(Hire hire, int cost, int account) {
        int taken = cost <= hire.held ? cost : hire.held;
        hire.held -= taken;
        book(account, hire.asked[0], taken);
        book(7, hire.asked[0], cost - taken);
        return taken;
    }

    int count(int what) {
        if (what >= 10 && what <= 17) {
            return now.settings[what - 10];
        }
        if (what == 23) {
            int held = 0;
            for (Hire hire : now.hires) {
                held += hire.held;
            }
            return held;
        }
        if (what >= 20 && what <= 28) {
            return account(what - 20, -1);
        }
        if (what < 0 || what > 8) {
            return INVALID;
        }
        int notCancelled = 0;
        int hours = 0;
        for (Session session : now.sessions) {
            if (session.state != 2) {
                notCancelled++;
            }
            if (session.state == 1) {
                hours += (session.to - session.from) * Integer.bitCount(session.rooms);
            }
        }
        int inBox = 0;
        int late = 0;
        for (int key = 0; key < 6; key++) {
            inBox += now.keyHire[key] == null ? 1 : 0;
            late += late(key) > 0 ? 1 : 0;
        }
        return new int[] {now.day, now.hirers, now.hires.size(), notCancelled, inBox, late, hours, history.size(),
            text.length()}[what];
    }

    int undo() {
        if (history.isEmpty()) {
            return NOT_POSSIBLE;
        }
        now = history.remove(history.size() - 1);
        return history.size();
    }

    int lend(int key, int hire) {
        if (key < 0 || key > 5 || noHire(hire)) {
            return INVALID;
        }
        List<Session> planned = of(hire, 0);
        if (now.keyHire[key] != null || planned.isEmpty()
                || (now.hires.get(hire).asked[1] & 1 << key % 3) == 0) {
            return NOT_POSSIBLE;
        }
        change();
        int last = 0;
        for (Session session : planned) {
            last = Math.max(last, session.day);
        }
        now.keyHire[key] = hire;
        now.keyDue[key] = last + now.settings[7];
        return now.keyDue[key];
    }

    int bringBack(int key) {
        if (key < 0 || key > 5) {
            return INVALID;
        }
        if (now.keyHire[key] == null) {
            return NOT_POSSIBLE;
        }
        change();
        int late = late(key);
        now.keyHire[key] = null;
        return late;
    }

    int key(int key, int what) {
        if (key < 0 || key > 5 || what < 0 || what > 4) {
            return INVALID;
        }
        if (what == 0) {
            return key % 3;
        }
        if (now.keyHire[key] == null) {
            return NOT_FOUND;
        }
        int hire = now.keyHire[key];
        return new int[] {0, now.hires.get(hire).asked[0], hire, now.keyDue[key], late(key)}[what];
    }

    int report(int number, int kind) {
        Session session = find(number);
        if (session == null || kind < 0 || kind > 3) {
            return INVALID;
        }
        Hire hire = now.hires.get(session.hire);
        if (session.state != 1 || hire.settled || kind == 1 && (session.rooms & 2) == 0) {
            return NOT_POSSIBLE;
        }
        if (hire.faults.size() == 8) {
            return LIMIT;
        }
        change();
        int before = 0;
        for (Fault fault : hire.faults) {
            before += fault.kind == 3 ? 1 : 0;
        }
        int cost = new int[] {1000 * Integer.bitCount(session.rooms), 2500, 4000, 2000 + 500 * before}[kind];
        hire.faults.add(new Fault(kind, number, cost, takeCost(hire, cost, 4)));
        return cost;
    }

    int fault(int hire, int index, int what) {
        if (noHire(hire) || index < 0 || what < 0 || what > 3) {
            return INVALID;
        }
        List<Fault> faults = now.hires.get(hire).faults;
        if (index >= faults.size()) {
            return NOT_FOUND;
        }
        Fault fault = faults.get(index);
        return new int[] {fault.kind, fault.session, fault.cost, fault.taken}[what];
    }

    int settle(int number) {
        if (noHire(number)) {
            return INVALID;
        }
        Hire hire = now.hires.get(number);
        if (hire.settled || !of(number, 0).isEmpty() || keysFor(number) > 0) {
            return NOT_POSSIBLE;
        }
        change();
        hire = now.hires.get(number);
        int back = hire.held;
        hire.held = 0;
        hire.settled = true;
        book(6, hire.asked[0], back);
        return back;
    }

    int type(int character) {
        if (character < 32 || character > 126) {
            return INVALID;
        }
        if (text.length() == 80) {
            return LIMIT;
        }
        text += (char) character;
        return text.length();
    }

    int clearText() {
        int length = text.length();
        text = "";
        return length;
    }

    /** Makes the hires of the text in the present state: position, reason, clash, number of hires. */
    private int[] tryText() {
        Matcher matcher = FORM.matcher(text);
        int position = 0;
        int made = 0;
        while (position < text.length()) {
            matcher.region(position, text.length());
            if (!matcher.lookingAt()) {
                return new int[] {position, 1, -1, made};
            }
            int rooms = (matcher.group(5).isEmpty() ? 0 : 1) + (matcher.group(6).isEmpty() ? 0 : 2)
                    + (matcher.group(7).isEmpty() ? 0 : 4);
            int sessions = matcher.group(8) == null ? 1 : Integer.parseInt(matcher.group(8));
            int interval = matcher.group(9) == null ? 1 : Integer.parseInt(matcher.group(9));
            int[] asked = {Integer.parseInt(matcher.group(1)), rooms, Integer.parseInt(matcher.group(2)),
                Integer.parseInt(matcher.group(3)), Integer.parseInt(matcher.group(4)), sessions, interval};
            if (noHirer(asked[0])) {
                return new int[] {position, 2, -1, made};
            }
            if (badTimes(asked) || asked[2] + (sessions - 1) * interval > 364) {
                return new int[] {position, 3, -1, made};
            }
            int stands = clashing(asked);
            if (stands >= 0) {
                return new int[] {position, 4, stands, made};
            }
            if (now.hires.size() == 12) {
                return new int[] {position, 5, -1, made};
            }
            make(asked);
            made++;
            position = matcher.end();
        }
        return new int[] {-1, 0, -1, made};
    }

    int textFault(int what) {
        if (what < 0 || what > 1) {
            return INVALID;
        }
        State before = now.copy();
        int[] tried = tryText();
        now = before;
        return tried[1] == 0 ? NOT_FOUND : tried[what];
    }

    int enter() {
        State before = now.copy();
        int[] tried = tryText();
        State after = now;
        now = before;
        if (tried[1] == 4) {
            clash = tried[2];
        }
        if (tried[1] != 0) {
            return NOT_POSSIBLE;
        }
        change();
        now = after;
        return tried[3];
    }
}
