/** Promises 18 to 20: lend, bringBack, key; and the late fees of pass. */
public final class KeyTest {
    private static final Checks CHECKS = new Checks("KeyTest");

    public static void main(String[] args) {
        lend();
        lendNotPossible();
        dueDays();
        undoRestoresDueDays();
        bringBack();
        key();
        lateFees();
        lateFeesAreThoseOfNow();
        lateFeesOfEachHire();
        CHECKS.end();
    }

    private static void due(String what, long got, long want) {
        CHECKS.due(what, got, want);
    }

    private static void lend() {
        VillageHall hall = Checks.hallWithHirers(2);
        hall.hire(1, 5, 3, 1012, 2, 4);
        due("the key 0", hall.lend(0, 0), 9);
        due("the key 3 for the same room", hall.lend(3, 0), 9);
        due("the key 5", hall.lend(5, 0), 9);
        due("keys in the box", hall.count(4), 3);
        due("keys of the hirer", hall.hirer(1, 5), 3);
        due("keys for the hire", hall.hireInfo(0, 14), 3);
        due("undo", hall.undo(), 3);
        due("in the box again", hall.key(5, 1), Checks.NOT_FOUND);
    }

    private static void lendNotPossible() {
        VillageHall hall = Checks.hallWithHirers(1);
        hall.hire(0, 5, 0, 1012, 1, 1);
        hall.hire(0, 2, 20, 1012, 2, 4);
        due("a room that is not hired", hall.lend(1, 0), Checks.NOT_POSSIBLE);
        due("its other key", hall.lend(4, 0), Checks.NOT_POSSIBLE);
        due("a key for it", hall.lend(0, 0), 2);
        due("the key is lent", hall.lend(0, 0), Checks.NOT_POSSIBLE);
        hall.pass(1);
        due("all are held", hall.lend(2, 0), Checks.NOT_POSSIBLE);
        hall.cancel(20);
        due("one is planned", hall.lend(1, 1), 26);
        hall.cancel(21);
        due("none is planned", hall.lend(4, 1), Checks.NOT_POSSIBLE);
        int[][] wrong = {{-1, 0}, {6, 0}, {0, -1}, {0, 2}, {Integer.MAX_VALUE, 0}, {0, Integer.MIN_VALUE}};
        for (int[] pair : wrong) {
            due("lend(" + pair[0] + ", " + pair[1] + ")", hall.lend(pair[0], pair[1]), Checks.INVALID);
        }
    }

    private static void dueDays() {
        VillageHall hall = Checks.hallWithHirers(1);
        hall.hire(0, 3, 0, 1012, 3, 10);
        due("the last one", hall.lend(0, 0), 22);
        hall.cancel(2);
        due("the due day stays", hall.key(0, 3), 22);
        due("the last planned one", hall.lend(3, 0), 12);
        hall.set(7, 30);
        due("the days as they are set then", hall.lend(1, 0), 40);
        due("those that are lent stay", hall.key(3, 3), 12);
        hall.set(7, 0);
        hall.pass(10);
        due("today's session is planned", hall.lend(4, 0), 10);
    }

    private static void undoRestoresDueDays() {
        VillageHall hall = Checks.hallWithHirers(2);
        hall.hire(0, 1, 3, 1012, 1, 1);
        hall.hire(1, 1, 9, 1012, 1, 1);
        hall.lend(0, 0);
        hall.bringBack(0);
        due("lent again", hall.lend(0, 1), 11);
        hall.undo();
        hall.undo();
        due("the hire of before", hall.key(0, 2), 0);
        due("the due day of before", hall.key(0, 3), 5);
    }

    private static void bringBack() {
        VillageHall hall = Checks.hallWithHirers(1);
        hall.hire(0, 1, 5, 1012, 1, 1);
        due("in the box", hall.bringBack(0), Checks.NOT_POSSIBLE);
        hall.lend(0, 0);
        hall.lend(3, 0);
        due("early", hall.bringBack(3), 0);
        hall.lend(3, 0);
        hall.pass(7);
        due("on the due day", hall.bringBack(3), 0);
        hall.pass(1);
        due("a day late", hall.bringBack(0), 1);
        due("again", hall.bringBack(0), Checks.NOT_POSSIBLE);
        due("keys in the box", hall.count(4), 6);
        hall.undo();
        hall.pass(10);
        due("11 days late", hall.bringBack(0), 11);
        hall.pass(1);
        due("no fee in the box", hall.count(25), 11 * 300);
        due("no such key", hall.bringBack(6), Checks.INVALID);
        due("negative", hall.bringBack(-1), Checks.INVALID);
    }

    private static void key() {
        VillageHall hall = Checks.hallWithHirers(3);
        hall.hire(0, 1, 5, 1012, 1, 1);
        hall.hire(2, 4, 5, 1012, 1, 1);
        hall.lend(5, 1);
        int[] want = {2, 2, 1, 7, 0};
        for (int what = 0; what < want.length; what++) {
            due("key(5, " + what + ")", hall.key(5, what), want[what]);
        }
        hall.pass(7);
        due("not late on the due day", hall.key(5, 4), 0);
        hall.pass(3);
        due("three days late", hall.key(5, 4), 3);
        for (int what = 1; what <= 4; what++) {
            due("in the box: key(0, " + what + ")", hall.key(0, what), Checks.NOT_FOUND);
        }
        due("the room of one in the box", hall.key(4, 0), 1);
        int[][] wrong = {{-1, 0}, {6, 0}, {0, -1}, {0, 5}, {5, 5}, {6, 1}, {Integer.MAX_VALUE, 0},
            {0, Integer.MIN_VALUE}};
        for (int[] pair : wrong) {
            due("key(" + pair[0] + ", " + pair[1] + ")", hall.key(pair[0], pair[1]), Checks.INVALID);
        }
    }

    private static void lateFees() {
        VillageHall hall = Checks.hallWithHirers(1);
        hall.set(5, 1000);
        hall.hire(0, 1, 0, 1011, 1, 1);
        hall.lend(0, 0);
        hall.pass(2);
        due("no fee on the due day", hall.count(25), 0);
        hall.pass(1);
        due("a fee", hall.count(25), 300);
        due("the deposit", hall.hireInfo(0, 12), 700);
        hall.pass(2);
        due("three fees", hall.count(25), 900);
        hall.pass(1);
        due("what is left of the deposit", hall.count(25), 1000);
        due("the rest is charged", hall.count(27), 200);
        due("nothing is held", hall.count(23), 0);
        due("charged", hall.hirer(0, 0), 1200 + 1000 + 200);
        hall.pass(2);
        due("beyond", hall.count(27), 800);
    }

    private static void lateFeesAreThoseOfNow() {
        VillageHall hall = Checks.hallWithHirers(1);
        hall.hire(0, 1, 0, 1011, 1, 1);
        hall.lend(0, 0);
        hall.set(6, 0);
        hall.pass(5);
        due("no fee", hall.count(25), 0);
        hall.set(6, 5000);
        hall.pass(1);
        due("the dear fee", hall.count(25), 5000);
        hall.set(6, 1);
        hall.pass(3);
        due("the cheap fee", hall.count(27), 3);
    }

    private static void lateFeesOfEachHire() {
        VillageHall hall = Checks.hallWithHirers(2);
        hall.hire(0, 1, 0, 1011, 1, 1);
        hall.hire(1, 6, 0, 1011, 1, 1);
        hall.hire(1, 6, 50, 1011, 1, 1);
        hall.lend(0, 0);
        hall.lend(1, 1);
        hall.lend(2, 1);
        hall.lend(4, 2);
        hall.pass(5);
        due("deposit of the hire 0", hall.hireInfo(0, 12), 5000 - 900);
        due("deposit of the hire 1", hall.hireInfo(1, 12), 5000 - 1800);
        due("deposit of the hire 2", hall.hireInfo(2, 12), 5000);
        hall.pass(7);
        due("the hire 1 after 10 days", hall.hireInfo(1, 12), 0);
        due("its hirer pays the rest", hall.count(27), 1000);
        due("charged to him", hall.hirer(1, 0), 2 * (1400 + 5000) + 1000);
        due("not to the other one", hall.hirer(0, 0), 6200);
    }
}
