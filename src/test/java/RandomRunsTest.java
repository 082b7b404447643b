/**
 * Long runs of calls, made by a fixed rule, on VillageHall and on PlainHall: every answer must be
 * the same, and no call may throw. Most arguments are in range; some are at an edge or far out.
 */
public final class RandomRunsTest {
    private static final int RUNS = 4000;
    private static final int CALLS = 512;
    private static final String[] NAMES = {"addHirer", "hirer", "pay", "set", "hire", "clash", "hireInfo", "session",
        "cancel", "price", "taken", "firstFree", "inOrder", "pass", "count", "undo", "lend", "bringBack", "key",
        "report", "fault", "settle", "type", "clearText", "textFault", "enter", "text"};
    /** How often each of the calls is made; "text" empties the text and types a new one. */
    private static final int[] WEIGHTS = {3, 8, 4, 5, 30, 4, 14, 14,
        10, 4, 6, 6, 10, 8, 14, 5, 14, 7, 10,
        25, 8, 8, 2, 1, 4, 4, 6};
    private static final int[] EXTREMES = {Integer.MIN_VALUE, Integer.MAX_VALUE, -1, -100, 1000000, -2000000001};

    private final VillageHall hall = new VillageHall();
    private final PlainHall plain = new PlainHall();
    private final Checks checks;
    private final int run;
    private final int year;
    private final int[] seen = new int[NAMES.length];
    private long state;
    private int calls;

    private RandomRunsTest(Checks checks, int run) {
        this.checks = checks;
        this.run = run;
        // Runs in a short year are full of clashes, those in a long one of free days.
        this.year = new int[] {10, 30, 120, 365}[run % 4];
        this.state = run * 0x9E3779B97F4A7C15L + 1;
    }

    public static void main(String[] args) {
        Checks checks = new Checks("RandomRunsTest");
        int[] done = new int[NAMES.length];
        for (int run = 0; run < RUNS; run++) {
            RandomRunsTest one = new RandomRunsTest(checks, run);
            one.play();
            for (int call = 0; call < done.length; call++) {
                done[call] += one.seen[call];
            }
        }
        for (int call = 0; call < done.length; call++) {
            checks.isTrue(NAMES[call] + " was made and answered with success", done[call] > 100);
        }
        checks.end();
    }

    private int below(int bound) {
        state = state * 6364136223846793005L + 1442695040888963407L;
        return (int) ((state >>> 33) % bound);
    }

    /** A number from least to most; now and then one beside them or far out. */
    private int pick(int least, int most) {
        int chance = below(100);
        if (chance < 2) {
            return EXTREMES[below(EXTREMES.length)];
        }
        if (chance < 4) {
            return chance == 2 ? least - 1 : most + 1;
        }
        if (chance < 10) {
            return chance < 7 ? least : most;
        }
        return least + below(most - least + 1);
    }

    private void play() {
        for (int hirers = 1 + below(3); hirers > 0; hirers--) {
            call(0);
        }
        while (calls < CALLS) {
            int chance = below(sum(WEIGHTS));
            int which = 0;
            while (chance >= WEIGHTS[which]) {
                chance -= WEIGHTS[which];
                which++;
            }
            call(which);
        }
    }

    private static int sum(int[] numbers) {
        int sum = 0;
        for (int number : numbers) {
            sum += number;
        }
        return sum;
    }

    private void call(int which) {
        try {
            int want = which < 13 ? firstCalls(which) : laterCalls(which);
            if (want >= 0) {
                seen[which]++;
            }
        } catch (RuntimeException thrown) {
            checks.due("run " + run + ", call " + calls + ", " + NAMES[which] + " threw " + thrown, 1, 0);
        }
    }

    private int same(String call, int got, int want) {
        calls++;
        if (calls <= CALLS) {
            checks.due("run " + run + ", call " + calls + ": " + call, got, want);
        }
        return want;
    }

    private int hirer() {
        return pick(0, Math.max(0, plain.count(1) - 1));
    }

    private int anyHire() {
        return pick(0, Math.max(0, plain.count(2) - 1));
    }

    private int anySession() {
        int hire = Math.max(0, plain.count(2) - 1);
        return below(10) == 0 ? pick(0, 239) : 20 * below(hire + 1) + below(1 + Math.max(0, plain.hireInfo(hire, 4)));
    }

    private int day() {
        int present = plain.count(0);
        return below(12) == 0 ? pick(0, 364) : pick(Math.min(present, 364), Math.min(364, present + year));
    }

    private int hours() {
        int from = below(24);
        return below(20) == 0 ? pick(0, 2500) : 100 * from + from + 1 + below(Math.min(24 - from, 6));
    }

    private int firstCalls(int which) {
        int a;
        int b;
        int c;
        int d;
        switch (which) {
            case 0:
                return same("addHirer()", hall.addHirer(), plain.addHirer());
            case 1:
                a = hirer();
                b = pick(0, 6);
                return same("hirer(" + a + ", " + b + ")", hall.hirer(a, b), plain.hirer(a, b));
            case 2:
                a = hirer();
                b = pick(1, 1000000);
                return same("pay(" + a + ", " + b + ")", hall.pay(a, b), plain.pay(a, b));
            case 3:
                a = pick(0, 7);
                b = pick(0, new int[] {5000, 5000, 5000, 100, 3, 50000, 5000, 30}[a & 7]);
                return same("set(" + a + ", " + b + ")", hall.set(a, b), plain.set(a, b));
            case 4:
                return hire();
            case 5:
                return same("clash()", hall.clash(), plain.clash());
            case 6:
                a = anyHire();
                b = pick(0, 15);
                return same("hireInfo(" + a + ", " + b + ")", hall.hireInfo(a, b), plain.hireInfo(a, b));
            case 7:
                a = anySession();
                b = pick(0, 3);
                return same("session(" + a + ", " + b + ")", hall.session(a, b), plain.session(a, b));
            case 8:
                a = anySession();
                return same("cancel(" + a + ")", hall.cancel(a), plain.cancel(a));
            case 9:
                a = pick(1, 7);
                b = hours();
                c = pick(1, 20);
                return same("price(" + a + ", " + b + ", " + c + ")", hall.price(a, b, c), plain.price(a, b, c));
            case 10:
                a = below(2) == 0 ? day() : pick(0, 364);
                b = pick(1, 7);
                return same("taken(" + a + ", " + b + ")", hall.taken(a, b), plain.taken(a, b));
            case 11:
                a = hirer();
                b = pick(1, 7);
                c = day();
                d = pick(1, 15);
                return same("firstFree(" + a + ", " + b + ", " + c + ", " + d + ")", hall.firstFree(a, b, c, d),
                        plain.firstFree(a, b, c, d));
            default:
                a = pick(0, Math.max(1, plain.count(3)));
                return same("inOrder(" + a + ")", hall.inOrder(a), plain.inOrder(a));
        }
    }

    private int hire() {
        int hirer = hirer();
        int rooms = pick(1, 7);
        int day = day();
        int hours = hours();
        int sessions = below(3) == 0 ? 1 : pick(1, 20);
        int interval = below(5) == 0 ? pick(1, 60) : pick(1, Math.max(1, year / 10));
        String call = "hire(" + hirer + ", " + rooms + ", " + day + ", " + hours + ", " + sessions + ", " + interval + ")";
        return same(call,
                hall.hire(hirer, rooms, day, hours, sessions, interval),
                plain.hire(hirer, rooms, day, hours, sessions, interval));
    }

    private int laterCalls(int which) {
        int a;
        int b;
        int c;
        switch (which) {
            case 13:
                a = below(4) == 0 ? pick(1, 60) : pick(1, Math.max(2, year / 20));
                return same("pass(" + a + ")", hall.pass(a), plain.pass(a));
            case 14:
                a = pick(0, 28);
                return same("count(" + a + ")", hall.count(a), plain.count(a));
            case 15:
                return same("undo()", hall.undo(), plain.undo());
            case 16:
                a = pick(0, 5);
                b = anyHire();
                return same("lend(" + a + ", " + b + ")", hall.lend(a, b), plain.lend(a, b));
            case 17:
                a = pick(0, 5);
                return same("bringBack(" + a + ")", hall.bringBack(a), plain.bringBack(a));
            case 18:
                a = pick(0, 5);
                b = pick(0, 4);
                return same("key(" + a + ", " + b + ")", hall.key(a, b), plain.key(a, b));
            case 19:
                a = anySession();
                b = pick(0, 3);
                return same("report(" + a + ", " + b + ")", hall.report(a, b), plain.report(a, b));
            case 20:
                a = anyHire();
                b = pick(0, 7);
                c = pick(0, 3);
                return same("fault(" + a + ", " + b + ", " + c + ")", hall.fault(a, b, c), plain.fault(a, b, c));
            case 21:
                a = anyHire();
                return same("settle(" + a + ")", hall.settle(a), plain.settle(a));
            case 22:
                a = pick(32, 126);
                return same("type(" + a + ")", hall.type(a), plain.type(a));
            case 23:
                return same("clearText()", hall.clearText(), plain.clearText());
            case 24:
                a = pick(0, 1);
                return same("textFault(" + a + ")", hall.textFault(a), plain.textFault(a));
            case 25:
                return same("enter()", hall.enter(), plain.enter());
            default:
                return text();
        }
    }

    private int text() {
        StringBuilder text = new StringBuilder();
        for (int hires = 1 + below(3); hires > 0; hires--) {
            text.append(hireText());
        }
        if (below(8) == 0) {
            text.setCharAt(below(text.length()), "0123456789:@-/hkmx+; ".charAt(below(21)));
        }
        same("clearText()", hall.clearText(), plain.clearText());
        for (int index = 0; index < text.length(); index++) {
            char character = text.charAt(index);
            same("type(" + (int) character + ")", hall.type(character), plain.type(character));
        }
        same("textFault(0)", hall.textFault(0), plain.textFault(0));
        same("textFault(1)", hall.textFault(1), plain.textFault(1));
        return same("enter() of " + text, hall.enter(), plain.enter());
    }

    private String hireText() {
        int hours = hours();
        String rooms = new String[] {"h", "k", "m", "hk", "hm", "km", "hkm"}[below(7)];
        StringBuilder text = new StringBuilder();
        text.append(Math.min(9, Math.max(0, hirer()))).append(':').append(number(day())).append('@')
                .append(number(hours / 100)).append('-').append(number(hours % 100)).append('/').append(rooms);
        if (below(2) == 0) {
            text.append('x').append(number(pick(1, 20))).append('+').append(number(pick(1, Math.max(1, year / 10))));
        }
        return text.append(';').toString();
    }

    private String number(int wanted) {
        String digits = Integer.toString(wanted);
        return below(6) == 0 && digits.length() < 3 ? "0" + digits : digits;
    }
}
