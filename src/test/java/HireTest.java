/** Promises 6 to 14: hire, clash, hireInfo, session, cancel, price, taken, firstFree, inOrder. */
public final class HireTest {
    private static final Checks CHECKS = new Checks("HireTest");

    public static void main(String[] args) {
        hire();
        hireOutOfRange();
        hireAtTheEndOfTheYear();
        hireLimit();
        errorsInTheirOrder();
        clashByRoomsAndHours();
        clashByGap();
        clashIsTheEarliestOfTheFirst();
        clashStays();
        cancelledSessionsDoNotClash();
        hireInfo();
        session();
        cancel();
        price();
        shares();
        taken();
        firstFree();
        firstFreeAndGaps();
        inOrder();
        CHECKS.end();
    }

    private static void due(String what, long got, long want) {
        CHECKS.due(what, got, want);
    }

    private static void hire() {
        VillageHall hall = Checks.hallWithHirers(2);
        due("the first hire", hall.hire(1, 5, 3, 1719, 2, 60), 0);
        int price = 2 * (2 * 1800 + 300 + 150);
        due("its price is charged with the deposit", hall.hirer(1, 0), price + 5000);
        due("prices", hall.count(20), price);
        due("deposits taken", hall.count(22), 5000);
        due("deposits held", hall.count(23), 5000);
        due("hires", hall.count(2), 1);
        due("sessions", hall.count(3), 2);
        due("states", hall.count(7), 3);
        hall.set(5, 0);
        due("a hire without a deposit", hall.hire(0, 2, 3, 1719, 1, 1), 1);
        due("only the price is charged", hall.hirer(0, 0), 1800);
        due("deposits taken then", hall.count(22), 5000);
        due("the first one keeps its deposit", hall.hireInfo(0, 12), 5000);
    }

    private static void hireOutOfRange() {
        VillageHall hall = Checks.hallWithHirers(2);
        hall.pass(10);
        int[][] wrong = {
            {-1, 1, 10, 1012, 1, 1}, {2, 1, 10, 1012, 1, 1}, {0, 0, 10, 1012, 1, 1}, {0, 8, 10, 1012, 1, 1},
            {0, -1, 10, 1012, 1, 1}, {0, 1, 9, 1012, 1, 1}, {0, 1, 365, 1012, 1, 1}, {0, 1, -1, 1012, 1, 1},
            {0, 1, 10, -1, 1, 1}, {0, 1, 10, 1212, 1, 1}, {0, 1, 10, 1211, 1, 1}, {0, 1, 10, 1025, 1, 1},
            {0, 1, 10, 2424, 1, 1}, {0, 1, 10, 0, 1, 1}, {0, 1, 10, 2325, 1, 1}, {0, 1, 10, -88, 1, 1},
            {0, 1, 10, 1012, 0, 1}, {0, 1, 10, 1012, 21, 1}, {0, 1, 10, 1012, 1, 0}, {0, 1, 10, 1012, 1, 61},
            {0, 1, 10, 1012, Integer.MAX_VALUE, Integer.MAX_VALUE}, {0, 1, Integer.MIN_VALUE, 1012, 1, 1},
            {0, 1, 10, Integer.MAX_VALUE, 1, 1}, {0, 1, 10, Integer.MIN_VALUE, 1, 1}};
        for (int[] row : wrong) {
            due("hire" + java.util.Arrays.toString(row), hall.hire(row[0], row[1], row[2], row[3], row[4], row[5]),
                    Checks.INVALID);
        }
        due("nothing was hired", hall.count(2), 0);
        due("no state more", hall.count(7), 3);
        due("the present day", hall.hire(0, 7, 10, 24, 20, 1), 0);
        due("the last hour", hall.hire(0, 7, 364, 2324, 1, 60), 1);
    }

    private static void hireAtTheEndOfTheYear() {
        VillageHall hall = Checks.hallWithHirers(1);
        due("the last session on 364", hall.hire(0, 1, 4, 1012, 7, 60), 0);
        due("the last session on 365", hall.hire(0, 1, 5, 1012, 7, 60), Checks.NOT_POSSIBLE);
        due("a clash, but too late for it to be looked for", hall.hire(0, 1, 364, 1012, 2, 1), Checks.NOT_POSSIBLE);
        due("no clash is told", hall.clash(), Checks.NOT_FOUND);
    }

    private static void hireLimit() {
        VillageHall hall = Checks.hallWithHirers(1);
        for (int made = 0; made < 12; made++) {
            due("hire", hall.hire(0, 1, made, 1012, 1, 1), made);
        }
        due("a thirteenth", hall.hire(0, 1, 20, 1012, 1, 1), Checks.LIMIT);
        due("hires", hall.count(2), 12);
        due("states", hall.count(7), 4);
        due("the last one's day", hall.session(220, 0), 11);
        hall.undo();
        due("another one after undo", hall.hire(0, 2, 20, 1012, 20, 1), 11);
        due("its last session", hall.session(239, 0), 39);
        due("no session behind", hall.session(240, 0), Checks.INVALID);
    }

    private static void errorsInTheirOrder() {
        VillageHall hall = Checks.hallWithHirers(1);
        for (int made = 0; made < 12; made++) {
            hall.hire(0, 1, 3 * made, 1012, 1, 1);
        }
        due("a clash comes before the limit", hall.hire(0, 1, 6, 1112, 1, 1), Checks.NOT_POSSIBLE);
        due("it is told", hall.clash(), 40);
        due("a wrong argument comes before a clash", hall.hire(0, 1, 6, 1112, 1, 61), Checks.INVALID);
        due("too late comes before the limit", hall.hire(0, 1, 364, 1112, 2, 1), Checks.NOT_POSSIBLE);
        due("the clash of before is told", hall.clash(), 40);
    }

    private static void clashByRoomsAndHours() {
        VillageHall hall = Checks.hallWithHirers(1);
        hall.hire(0, 3, 10, 1014, 1, 1);
        due("another room", hall.hire(0, 4, 10, 1014, 1, 1), 1);
        due("another day", hall.hire(0, 3, 11, 1014, 1, 1), 2);
        due("right before", hall.hire(0, 1, 10, 810, 1, 1), 3);
        due("right after", hall.hire(0, 2, 10, 1416, 1, 1), 4);
        due("the first hour", hall.hire(0, 1, 10, 911, 1, 1), Checks.NOT_POSSIBLE);
        due("the earlier one stands against it", hall.clash(), 60);
        due("the last hour", hall.hire(0, 1, 10, 1318, 1, 1), Checks.NOT_POSSIBLE);
        due("clash of the last hour", hall.clash(), 0);
        due("within", hall.hire(0, 6, 10, 1112, 1, 1), Checks.NOT_POSSIBLE);
        due("clash within, by hours before numbers", hall.clash(), 0);
        due("around", hall.hire(0, 4, 10, 624, 1, 1), Checks.NOT_POSSIBLE);
        due("clash around", hall.clash(), 20);
        due("hires", hall.count(2), 5);
    }

    private static void clashByGap() {
        for (int gap = 0; gap <= 3; gap++) {
            VillageHall hall = Checks.hallWithHirers(2);
            hall.set(4, gap);
            hall.hire(0, 1, 10, 1014, 1, 1);
            String with = "gap " + gap + ": ";
            for (int between = 0; between <= 4; between++) {
                int want = between < gap ? Checks.NOT_POSSIBLE : 1;
                int after = 100 * (14 + between) + 15 + between;
                int before = 100 * (9 - between) + 10 - between;
                due(with + between + " hours after", hall.hire(1, 1, 10, after, 1, 1), want);
                undoIf(hall, want == 1);
                due(with + between + " hours before", hall.hire(1, 1, 10, before, 1, 1), want);
                undoIf(hall, want == 1);
            }
            due(with + "no gap for the same hirer", hall.hire(0, 1, 10, 1415, 1, 1), 1);
            due(with + "no gap for another room", hall.hire(1, 6, 10, 1415, 1, 1), 2);
        }
        VillageHall hall = Checks.hallWithHirers(2);
        hall.set(4, 3);
        hall.hire(0, 1, 10, 2124, 1, 1);
        due("a gap does not reach into the next day", hall.hire(1, 1, 11, 3, 1, 1), 1);
        due("a gap does not reach into the day before", hall.hire(0, 1, 10, 18, 1, 1), 2);
    }

    private static void undoIf(VillageHall hall, boolean wanted) {
        if (wanted) {
            hall.undo();
        }
    }

    private static void clashIsTheEarliestOfTheFirst() {
        VillageHall hall = Checks.hallWithHirers(1);
        hall.hire(0, 4, 20, 1012, 1, 1);    // 0
        hall.hire(0, 1, 17, 1416, 2, 3);    // 20 on 17, 21 on 20
        hall.hire(0, 2, 17, 912, 1, 1);     // 40
        hall.hire(0, 4, 17, 911, 1, 1);     // 60
        due("a series", hall.hire(0, 7, 14, 922, 3, 3), Checks.NOT_POSSIBLE);
        due("its first clash, by hours, then by numbers", hall.clash(), 40);
        due("fewer rooms", hall.hire(0, 5, 14, 922, 3, 3), Checks.NOT_POSSIBLE);
        due("their clash", hall.clash(), 60);
        due("one room", hall.hire(0, 1, 14, 922, 3, 3), Checks.NOT_POSSIBLE);
        due("its clash", hall.clash(), 20);
        due("the third session", hall.hire(0, 4, 14, 1123, 3, 3), Checks.NOT_POSSIBLE);
        due("clash of the third session", hall.clash(), 0);
    }

    private static void clashStays() {
        VillageHall hall = Checks.hallWithHirers(1);
        hall.hire(0, 1, 10, 1012, 1, 1);
        hall.hire(0, 1, 10, 1012, 1, 1);
        due("clash", hall.clash(), 0);
        hall.hire(0, 1, 11, 1012, 1, 1);
        due("clash after a hire", hall.clash(), 0);
        hall.undo();
        hall.undo();
        due("clash after undo", hall.clash(), 0);
        due("hires after undo", hall.count(2), 0);
        hall.hire(0, 1, 11, 1012, 0, 1);
        due("clash after a wrong call", hall.clash(), 0);
    }

    private static void cancelledSessionsDoNotClash() {
        VillageHall hall = Checks.hallWithHirers(2);
        hall.hire(0, 1, 10, 1012, 3, 1);
        hall.cancel(1);
        due("in the place of the cancelled one", hall.hire(1, 1, 11, 1012, 1, 1), 1);
        due("not in that of the next one", hall.hire(1, 1, 12, 1012, 1, 1), Checks.NOT_POSSIBLE);
        due("clash", hall.clash(), 2);
    }

    private static void hireInfo() {
        VillageHall hall = Checks.hallWithHirers(3);
        hall.hire(1, 1, 1, 12, 1, 1);
        hall.hire(2, 6, 4, 1719, 10, 5);    // 10 * (2 * 1400 + 200 + 150), less 20 percent
        hall.lend(1, 1);
        hall.lend(5, 1);
        hall.pass(10);                      // held on 4 and 9
        hall.cancel(29);
        hall.cancel(28);
        hall.cancel(22);
        hall.report(20, 2);
        int[] want = {2, 6, 17, 19, 10, 4, 5, 25200, 20, 5, 2, 3, 1000, 1, 2, 0};
        for (int what = 0; what < want.length; what++) {
            due("hireInfo(1, " + what + ")", hall.hireInfo(1, what), want[what]);
        }
        due("discount of one session", hall.hireInfo(0, 8), 0);
        due("keys of the other hire", hall.hireInfo(0, 14), 0);
        hall.settle(0);
        due("settled", hall.hireInfo(0, 15), 1);
        due("nothing is held then", hall.hireInfo(0, 12), 0);
        int[][] wrong = {{-1, 0}, {2, 0}, {1, -1}, {1, 16}, {12, 0}, {Integer.MAX_VALUE, 14}, {-1, 14},
            {0, Integer.MIN_VALUE}, {0, Integer.MAX_VALUE}};
        for (int[] pair : wrong) {
            due("hireInfo(" + pair[0] + ", " + pair[1] + ")", hall.hireInfo(pair[0], pair[1]), Checks.INVALID);
        }
    }

    private static void session() {
        VillageHall hall = Checks.hallWithHirers(1);
        hall.set(2, 601);
        hall.hire(0, 4, 6, 1011, 3, 7);     // on 6, 13 and 20: 601 each
        due("day", hall.session(2, 0), 20);
        due("planned", hall.session(0, 1), 0);
        due("share", hall.session(1, 2), 601);
        due("6 days ahead", hall.session(0, 3), 0);
        due("13 days ahead", hall.session(1, 3), 300);
        due("20 days ahead", hall.session(2, 3), 601);
        hall.pass(6);
        due("7 days ahead", hall.session(1, 3), 300);
        due("14 days ahead", hall.session(2, 3), 601);
        due("today", hall.session(0, 3), 0);
        due("today it is planned", hall.session(0, 1), 0);
        hall.pass(1);
        due("then it is held", hall.session(0, 1), 1);
        due("a held one can not be cancelled", hall.session(0, 3), Checks.NOT_FOUND);
        hall.cancel(1);
        due("cancelled", hall.session(1, 1), 2);
        due("its day", hall.session(1, 0), 13);
        due("its share", hall.session(1, 2), 601);
        due("a cancelled one can not be cancelled", hall.session(1, 3), Checks.NOT_FOUND);
        int[][] wrong = {{-1, 0}, {3, 0}, {20, 0}, {19, 0}, {0, -1}, {0, 4}, {Integer.MAX_VALUE, 0},
            {Integer.MIN_VALUE, 0}, {-20, 0}, {0, Integer.MAX_VALUE}};
        for (int[] pair : wrong) {
            due("session(" + pair[0] + ", " + pair[1] + ")", hall.session(pair[0], pair[1]), Checks.INVALID);
        }
    }

    private static void cancel() {
        VillageHall hall = Checks.hallWithHirers(2);
        hall.set(2, 333);
        hall.hire(1, 4, 0, 1011, 5, 7);     // 1665 - 166 = 1499: 300, 300, 300, 300, 299
        due("price", hall.hireInfo(0, 7), 1499);
        due("28 days ahead", hall.cancel(4), 299);
        due("21 days ahead", hall.cancel(3), 300);
        due("14 days ahead", hall.cancel(2), 300);
        due("7 days ahead", hall.cancel(1), 150);
        due("today", hall.cancel(0), 0);
        due("refunds", hall.count(21), 1049);
        due("paid", hall.hirer(1, 1), 1049);
        due("charged stays", hall.hirer(1, 0), 6499);
        due("prices stay", hall.count(20), 1499);
        due("the deposit stays", hall.count(23), 5000);
        due("sessions", hall.count(3), 0);
        due("again", hall.cancel(4), Checks.NOT_POSSIBLE);
        due("undo", hall.undo(), 3);
        due("planned again", hall.session(0, 1), 0);
        hall.pass(1);
        due("a held one", hall.cancel(0), Checks.NOT_POSSIBLE);
        due("no such session", hall.cancel(5), Checks.INVALID);
        due("no such hire", hall.cancel(20), Checks.INVALID);
        due("negative", hall.cancel(-1), Checks.INVALID);
        due("states", hall.count(7), 4);
    }

    private static void price() {
        VillageHall hall = new VillageHall();
        due("one room, one hour", hall.price(1, 1011, 1), 1200);
        due("the kitchen", hall.price(2, 1011, 1), 800);
        due("the third room", hall.price(4, 1011, 1), 600);
        due("all of them", hall.price(7, 1011, 1), 2600);
        due("up to 18", hall.price(1, 1718, 1), 1200);
        due("from 18", hall.price(1, 1819, 1), 1500);
        due("over 18", hall.price(1, 1620, 1), 5400);
        due("all the day", hall.price(4, 24, 1), 24 * 600 + 6 * 150);
        due("3 sessions", hall.price(1, 1011, 3), 3600);
        due("4 sessions", hall.price(1, 1011, 4), 4320);
        due("9 sessions", hall.price(1, 1011, 9), 9720);
        due("10 sessions", hall.price(1, 1011, 10), 9600);
        due("20 sessions", hall.price(1, 1011, 20), 19200);
        hall.set(2, 199);
        hall.set(3, 1);
        due("the evening's part is rounded for each hour", hall.price(4, 1824, 1), 6 * 200);
        hall.set(1, 199);
        due("and for each room", hall.price(6, 1824, 1), 12 * 200);
        due("the discount is rounded down", hall.price(4, 1011, 4), 796 - 79);
        hall.set(0, 5000);
        hall.set(1, 5000);
        hall.set(2, 5000);
        hall.set(3, 100);
        due("the dearest", hall.price(7, 24, 20), 20 * 450000 / 5 * 4);
        hall.set(0, 0);
        due("for nothing", hall.price(1, 24, 20), 0);
        due("no change", hall.count(7), 4);
        int[][] wrong = {{0, 1011, 1}, {8, 1011, 1}, {-1, 1011, 1}, {1, 1010, 1}, {1, 1025, 1}, {1, -1, 1},
            {1, 1011, 0}, {1, 1011, 21}, {1, 2425, 1}, {1, 2400, 1}, {1, Integer.MAX_VALUE, 1},
            {1, 1011, Integer.MIN_VALUE}};
        for (int[] row : wrong) {
            due("price" + java.util.Arrays.toString(row), hall.price(row[0], row[1], row[2]), Checks.INVALID);
        }
        hall.addHirer();
        hall.pass(60);
        due("the present day is nothing to it", hall.price(2, 1011, 1), 5000);
    }

    private static void shares() {
        VillageHall hall = Checks.hallWithHirers(1);
        hall.set(2, 333);
        hall.hire(0, 4, 0, 1011, 4, 1);     // 1332 - 133 = 1199: 300, 300, 300, 299
        int[] want = {300, 300, 300, 299};
        for (int index = 0; index < want.length; index++) {
            due("share of " + index, hall.session(index, 2), want[index]);
        }
        hall.set(2, 5000);
        due("shares are those of the rates when it was made", hall.session(0, 2), 300);
        due("price too", hall.hireInfo(0, 7), 1199);
    }

    private static void taken() {
        VillageHall hall = Checks.hallWithHirers(2);
        hall.hire(0, 3, 10, 1012, 2, 5);
        hall.hire(1, 2, 10, 2124, 1, 1);
        hall.hire(1, 4, 10, 1, 1, 1);
        due("the first room", hall.taken(10, 1), 3 << 10);
        due("the kitchen", hall.taken(10, 2), 3 << 10 | 7 << 21);
        due("the third room", hall.taken(10, 4), 1);
        due("all", hall.taken(10, 7), 3 << 10 | 7 << 21 | 1);
        due("the second session", hall.taken(15, 1), 3 << 10);
        due("a day between", hall.taken(14, 7), 0);
        hall.cancel(1);
        due("a cancelled one", hall.taken(15, 7), 0);
        hall.pass(11);
        due("held ones", hall.taken(10, 7), 3 << 10 | 7 << 21 | 1);
        due("the first day", hall.taken(0, 7), 0);
        due("the last day", hall.taken(364, 7), 0);
        int[][] wrong = {{-1, 1}, {365, 1}, {0, 0}, {0, 8}, {0, -1}, {Integer.MAX_VALUE, 1}};
        for (int[] pair : wrong) {
            due("taken(" + pair[0] + ", " + pair[1] + ")", hall.taken(pair[0], pair[1]), Checks.INVALID);
        }
        hall.set(5, 0);
        hall.hire(0, 1, 20, 24, 1, 1);
        due("all the day", hall.taken(20, 1), (1 << 24) - 1);
    }

    private static void firstFree() {
        VillageHall hall = Checks.hallWithHirers(2);
        due("the first hour", hall.firstFree(0, 7, 0, 1), 8);
        due("all the day", hall.firstFree(0, 7, 364, 15), 36408);
        hall.hire(0, 1, 5, 811, 1, 1);
        due("the same hirer, right after", hall.firstFree(0, 1, 5, 12), 511);
        due("the other one, after the gap", hall.firstFree(1, 1, 5, 11), 512);
        due("too long for that day", hall.firstFree(1, 1, 5, 12), 608);
        due("another room", hall.firstFree(1, 6, 5, 15), 508);
        due("up to 23 at the latest", hall.firstFree(0, 1, 5, 13), 608);
        hall.pass(7);
        due("from the present day on", hall.firstFree(0, 1, 5, 1), 708);
        due("from a later day on", hall.firstFree(0, 1, 9, 1), 908);
        int[][] wrong = {{-1, 1, 0, 1}, {2, 1, 0, 1}, {0, 0, 0, 1}, {0, 8, 0, 1}, {0, 1, -1, 1}, {0, 1, 365, 1},
            {0, 1, 0, 0}, {0, 1, 0, 16}, {0, 1, 0, Integer.MIN_VALUE}, {0, 1, 0, Integer.MAX_VALUE}};
        for (int[] row : wrong) {
            due("firstFree" + java.util.Arrays.toString(row), hall.firstFree(row[0], row[1], row[2], row[3]),
                    Checks.INVALID);
        }
        hall.hire(1, 7, 345, 24, 20, 1);
        due("none is left", hall.firstFree(1, 1, 345, 1), Checks.NOT_FOUND);
        hall.cancel(39);
        due("a cancelled one leaves its place", hall.firstFree(1, 1, 345, 15), 36408);
        for (int times = 0; times < 5; times++) {
            hall.pass(60);
        }
        hall.pass(57);
        due("the last day is today", hall.firstFree(1, 1, 0, 15), 36408);
        hall.pass(1);
        due("the year is over", hall.firstFree(1, 1, 0, 1), Checks.NOT_FOUND);
    }

    private static void firstFreeAndGaps() {
        VillageHall hall = Checks.hallWithHirers(2);
        hall.set(4, 3);
        hall.hire(0, 1, 0, 1214, 1, 1);
        hall.hire(0, 1, 0, 2224, 1, 1);
        hall.hire(0, 1, 0, 6, 1, 1);
        due("none between the first two, one between the others", hall.firstFree(1, 1, 0, 2), 17);
        due("too long for it", hall.firstFree(1, 1, 0, 3), 108);
        due("the own gap", hall.firstFree(0, 1, 0, 4), 8);
        hall.set(4, 2);
        due("a smaller gap", hall.firstFree(1, 1, 0, 2), 8);
        due("between them", hall.firstFree(1, 1, 0, 4), 16);
        due("not between them", hall.firstFree(1, 1, 0, 5), 108);
        for (int made = 3; made < 12; made++) {
            hall.hire(0, 2, made, 24, 1, 1);
        }
        due("with 12 hires", hall.firstFree(1, 1, 0, 2), 8);
    }

    private static void inOrder() {
        VillageHall hall = Checks.hallWithHirers(1);
        hall.hire(0, 1, 10, 1416, 3, 10);   // 0, 1, 2 on 10, 20, 30
        hall.hire(0, 2, 10, 1416, 2, 20);   // 20, 21 on 10, 30
        hall.hire(0, 4, 0, 810, 4, 10);     // 40, 41, 42, 43 on 0, 10, 20, 30
        hall.hire(0, 1, 364, 1, 1, 1);      // 60
        int[] want = {40, 41, 0, 20, 42, 1, 43, 2, 21, 60};
        checkOrder(hall, want);
        hall.cancel(20);
        hall.cancel(42);
        hall.pass(25);
        checkOrder(hall, new int[] {40, 41, 0, 1, 43, 2, 21, 60});
        due("inOrder(-1)", hall.inOrder(-1), Checks.INVALID);
        due("inOrder(MIN)", hall.inOrder(Integer.MIN_VALUE), Checks.INVALID);
        due("inOrder(MAX)", hall.inOrder(Integer.MAX_VALUE), Checks.NOT_FOUND);
    }

    private static void checkOrder(VillageHall hall, int[] want) {
        for (int index = 0; index < want.length; index++) {
            due("inOrder(" + index + ")", hall.inOrder(index), want[index]);
        }
        due("inOrder behind the end", hall.inOrder(want.length), Checks.NOT_FOUND);
        due("sessions", hall.count(3), want.length);
    }
}
