/** Promises 15 to 17: pass, count, undo. */
public final class DayTest {
    private static final Checks CHECKS = new Checks("DayTest");

    public static void main(String[] args) {
        pass();
        passUpToTheEnd();
        count();
        accountsAddUp();
        undo();
        undoOfEachChange();
        refusedCallsChangeNothing();
        CHECKS.end();
    }

    private static void due(String what, long got, long want) {
        CHECKS.due(what, got, want);
    }

    private static void pass() {
        VillageHall hall = Checks.hallWithHirers(1);
        hall.hire(0, 1, 0, 1012, 3, 1);
        hall.hire(0, 2, 2, 1012, 2, 58);    // on 2 and 60
        due("the present day's are held", hall.pass(1), 1);
        due("the present day", hall.count(0), 1);
        due("held", hall.hireInfo(0, 10), 1);
        hall.cancel(1);
        due("a cancelled one is not held", hall.pass(1), 0);
        due("two on a day", hall.pass(1), 2);
        due("none", hall.pass(57), 0);
        due("the day 60", hall.count(0), 60);
        due("still planned today", hall.session(21, 1), 0);
        due("60 days", hall.pass(60), 1);
        due("the day 120", hall.count(0), 120);
        int[] wrong = {0, -1, 61, Integer.MAX_VALUE, Integer.MIN_VALUE};
        for (int days : wrong) {
            due("pass(" + days + ")", hall.pass(days), Checks.INVALID);
        }
        due("the day stays", hall.count(0), 120);
    }

    private static void passUpToTheEnd() {
        VillageHall hall = Checks.hallWithHirers(1);
        hall.hire(0, 1, 364, 1012, 1, 1);
        for (int times = 0; times < 6; times++) {
            due("60 days", hall.pass(60), 0);
        }
        due("41 days", hall.pass(41), Checks.LIMIT);
        due("61 days", hall.pass(61), Checks.INVALID);
        due("the day 360", hall.count(0), 360);
        due("40 days", hall.pass(40), 1);
        due("the day 400", hall.count(0), 400);
        due("a day more", hall.pass(1), Checks.LIMIT);
        due("undo", hall.undo(), 3);
        due("the day 360 again", hall.count(0), 360);
    }

    private static void count() {
        VillageHall hall = Checks.hallWithHirers(2);
        hall.hire(0, 7, 0, 1014, 2, 1);     // 12 hours of rooms each
        hall.hire(1, 1, 0, 1516, 3, 4);     // 1 each, on 0, 4 and 8
        hall.lend(0, 0);                    // due on 3
        hall.lend(3, 1);                    // due on 10
        hall.lend(1, 0);                    // due on 3
        hall.cancel(21);
        Checks.write(hall, "0:1");
        int[] want = {0, 2, 2, 4, 3, 0, 0, 4, 3};
        for (int what = 0; what < want.length; what++) {
            due("count(" + what + ")", hall.count(what), want[what]);
        }
        hall.pass(3);
        due("hours held", hall.count(6), 25);
        due("no late keys on the due day", hall.count(5), 0);
        hall.pass(1);
        due("late keys", hall.count(5), 2);
        due("sessions that are not cancelled", hall.count(3), 4);
        hall.bringBack(0);
        due("keys in the box", hall.count(4), 4);
        due("late keys then", hall.count(5), 1);
        hall.pass(6);
        due("late keys on the other's due day", hall.count(5), 1);
        hall.pass(1);
        due("late keys a day later", hall.count(5), 2);
        due("hours held then", hall.count(6), 26);
        int[] wrong = {-1, 9, 18, 19, 29, 30, Integer.MAX_VALUE, Integer.MIN_VALUE};
        for (int what : wrong) {
            due("count(" + what + ")", hall.count(what), Checks.INVALID);
        }
    }

    private static void accountsAddUp() {
        VillageHall hall = Checks.hallWithHirers(2);
        hall.hire(0, 3, 0, 1719, 4, 7);     // 4 * (4000 + 300 + 200), less 10 percent: 16200
        hall.hire(1, 4, 1, 1011, 1, 1);     // 600
        hall.pay(1, 700);
        hall.cancel(3);                     // 21 days ahead: 4050
        hall.cancel(1);                     // 7 days ahead: 2025
        hall.lend(0, 0);                    // due on 16
        hall.pass(20);                      // late from 17 to 20: 1200
        hall.bringBack(0);
        hall.report(0, 2);                  // 4000: 3800 from the deposit
        hall.report(20, 0);                 // 1000
        hall.settle(0);                     // 0
        hall.settle(1);                     // 4000
        int[] want = {16800, 6075, 10000, 0, 4800, 1200, 4000, 200, 700};
        for (int account = 0; account < want.length; account++) {
            due("account " + account, hall.count(20 + account), want[account]);
        }
        due("debts", hall.hirer(0, 2) + hall.hirer(1, 2), 16800 - 6075 + 10000 - 4000 + 200 - 700);
        due("debt of 0", hall.hirer(0, 2), 16200 + 5000 + 200 - 6075);
        due("debt of 1", hall.hirer(1, 2), 600 + 5000 - 700 - 4000);
    }

    private static void undo() {
        VillageHall hall = new VillageHall();
        due("nothing to undo", hall.undo(), Checks.NOT_POSSIBLE);
        for (int hirer = 0; hirer < 6; hirer++) {
            hall.addHirer();
            due("states", hall.count(7), Math.min(hirer + 1, 4));
        }
        for (int left = 3; left >= 0; left--) {
            due("undo", hall.undo(), left);
            due("hirers", hall.count(1), 2 + left);
        }
        due("the oldest ones were dropped", hall.undo(), Checks.NOT_POSSIBLE);
        due("hirers then", hall.count(1), 2);
        hall.addHirer();
        due("undo of a change after undos", hall.undo(), 0);
        due("hirers at last", hall.count(1), 2);
        Checks.write(hall, "abc");
        hall.addHirer();
        hall.type('d');
        due("undo with a text", hall.undo(), 0);
        due("the text stays", hall.clearText(), 4);
    }

    /** Each change, then undo: all that the calls tell must be as it was before. */
    private static void undoOfEachChange() {
        String before = Telling.of(Scenes::busy);
        for (int change = 0; change < Scenes.CHANGES; change++) {
            int which = change;
            String name = Scenes.CHANGE_NAMES[change];
            CHECKS.isTrue(name + " is possible", Scenes.change(Scenes.busy(), change) >= 0);
            CHECKS.isTrue(name + " shows", !Telling.of(() -> busyAfter(which, false)).equals(before));
            CHECKS.isTrue("all is as before " + name, Telling.of(() -> busyAfter(which, true)).equals(before));
        }
    }

    private static VillageHall busyAfter(int change, boolean undone) {
        VillageHall hall = Scenes.busy();
        Scenes.change(hall, change);
        if (undone) {
            due("undo of " + Scenes.CHANGE_NAMES[change], hall.undo(), 3);
        }
        return hall;
    }

    private static void refusedCallsChangeNothing() {
        CHECKS.isTrue("refused calls change nothing",
                Telling.withHistory(() -> afterRefusedCalls()).equals(Telling.withHistory(Scenes::busy)));
    }

    private static VillageHall afterRefusedCalls() {
        VillageHall hall = Scenes.busy();
        hall.hire(0, 1, 7, 1112, 1, 1);
        hall.hire(0, 1, 0, 1112, 1, 1);
        hall.cancel(0);
        hall.lend(5, 0);
        hall.bringBack(1);
        hall.report(2, 0);
        hall.report(60, 4);
        hall.settle(0);
        hall.pay(0, 0);
        hall.set(4, 4);
        hall.pass(0);
        hall.type(127);
        return hall;
    }
}
