/** Promises 21 to 23: report, fault, settle. */
public final class FaultTest {
    private static final Checks CHECKS = new Checks("FaultTest");

    public static void main(String[] args) {
        costs();
        leftLate();
        reportNotPossible();
        eightFaults();
        fault();
        settle();
        settleNotPossible();
        settleAfterCancelling();
        CHECKS.end();
    }

    private static void due(String what, long got, long want) {
        CHECKS.due(what, got, want);
    }

    private static VillageHall heldHall(int rooms) {
        VillageHall hall = Checks.hallWithHirers(1);
        hall.hire(0, rooms, 0, 1012, 3, 1);
        hall.pass(2);
        return hall;
    }

    private static void costs() {
        for (int rooms = 1; rooms <= 7; rooms++) {
            VillageHall hall = heldHall(rooms);
            due("not swept, rooms " + rooms, hall.report(0, 0), 1000 * Integer.bitCount(rooms));
            due("dishes left, rooms " + rooms, hall.report(0, 1),
                    (rooms & 2) != 0 ? 2500 : Checks.NOT_POSSIBLE);
            due("a broken chair, rooms " + rooms, hall.report(1, 2), 4000);
            due("left late, rooms " + rooms, hall.report(1, 3), 2000);
        }
        VillageHall hall = heldHall(7);
        hall.report(0, 0);
        due("from the deposit", hall.hireInfo(0, 12), 2000);
        due("kept", hall.count(24), 3000);
        due("nothing is charged", hall.count(27), 0);
        int charged = hall.hirer(0, 0);
        hall.report(0, 2);
        due("the rest of the deposit", hall.count(24), 5000);
        due("the rest is charged", hall.count(27), 2000);
        due("to the hirer", hall.hirer(0, 0), charged + 2000);
        due("held", hall.count(23), 0);
        due("faults", hall.hirer(0, 6), 2);
        due("undo", hall.undo(), 3);
        due("held again", hall.count(23), 2000);
        due("one fault", hall.hireInfo(0, 13), 1);
    }

    private static void leftLate() {
        VillageHall hall = heldHall(1);
        hall.hire(0, 2, 2, 1012, 1, 1);
        due("the first one", hall.report(0, 3), 2000);
        due("another kind", hall.report(0, 0), 1000);
        due("the second one", hall.report(1, 3), 2500);
        due("the third one", hall.report(0, 3), 3000);
        hall.pass(1);
        due("another hire", hall.report(20, 3), 2000);
        due("the fourth one", hall.report(2, 3), 3500);
    }

    private static void reportNotPossible() {
        VillageHall hall = heldHall(1);
        hall.hire(0, 2, 2, 1012, 2, 1);
        due("planned", hall.report(2, 0), Checks.NOT_POSSIBLE);
        due("dishes without the kitchen", hall.report(0, 1), Checks.NOT_POSSIBLE);
        hall.cancel(2);
        due("cancelled", hall.report(2, 0), Checks.NOT_POSSIBLE);
        hall.settle(0);
        due("settled", hall.report(0, 0), Checks.NOT_POSSIBLE);
        int[][] wrong = {{-1, 0}, {3, 0}, {22, 0}, {40, 0}, {0, -1}, {0, 4}, {Integer.MAX_VALUE, 0},
            {0, Integer.MIN_VALUE}, {2, 4}};
        for (int[] pair : wrong) {
            due("report(" + pair[0] + ", " + pair[1] + ")", hall.report(pair[0], pair[1]), Checks.INVALID);
        }
    }

    private static void eightFaults() {
        VillageHall hall = heldHall(1);
        for (int number = 0; number < 8; number++) {
            due("a fault", hall.report(number % 2, 0), 1000);
        }
        due("a ninth", hall.report(0, 0), Checks.LIMIT);
        due("not possible comes first", hall.report(0, 1), Checks.NOT_POSSIBLE);
        due("a wrong kind comes first", hall.report(0, 4), Checks.INVALID);
        due("faults", hall.hireInfo(0, 13), 8);
        due("kept", hall.count(24), 5000);
        due("charged beyond", hall.count(27), 3000);
        due("the eighth", hall.fault(0, 7, 1), 1);
        due("no ninth", hall.fault(0, 8, 1), Checks.NOT_FOUND);
    }

    private static void fault() {
        VillageHall hall = heldHall(3);
        hall.hire(0, 4, 2, 1012, 1, 1);
        hall.pass(1);
        hall.report(1, 2);
        hall.report(0, 1);
        hall.report(2, 3);
        hall.report(20, 0);
        int[][] want = {{2, 1, 4000, 4000}, {1, 0, 2500, 1000}, {3, 2, 2000, 0}};
        for (int index = 0; index < want.length; index++) {
            for (int what = 0; what < 4; what++) {
                due("fault(0, " + index + ", " + what + ")", hall.fault(0, index, what), want[index][what]);
            }
        }
        due("the other hire's session", hall.fault(1, 0, 1), 20);
        due("the other hire's deposit", hall.fault(1, 0, 3), 1000);
        due("not so many", hall.fault(0, 3, 0), Checks.NOT_FOUND);
        due("far too many", hall.fault(0, Integer.MAX_VALUE, 0), Checks.NOT_FOUND);
        int[][] wrong = {{-1, 0, 0}, {2, 0, 0}, {0, -1, 0}, {0, 0, -1}, {0, 0, 4}, {0, 3, 4},
            {0, Integer.MIN_VALUE, 0}, {Integer.MAX_VALUE, 0, 0}};
        for (int[] row : wrong) {
            due("fault" + java.util.Arrays.toString(row), hall.fault(row[0], row[1], row[2]), Checks.INVALID);
        }
    }

    private static void settle() {
        VillageHall hall = Checks.hallWithHirers(2);
        hall.hire(1, 1, 0, 1012, 1, 1);
        hall.pass(1);
        hall.report(0, 2);
        due("the rest of the deposit", hall.settle(0), 1000);
        due("paid", hall.hirer(1, 1), 1000);
        due("given back", hall.count(26), 1000);
        due("held", hall.count(23), 0);
        due("taken stays", hall.count(22), 5000);
        due("settled", hall.hireInfo(0, 15), 1);
        due("again", hall.settle(0), Checks.NOT_POSSIBLE);
        due("undo", hall.undo(), 3);
        due("not settled", hall.hireInfo(0, 15), 0);
        due("held again", hall.count(23), 1000);
        due("now it is", hall.settle(0), 1000);
        due("no such hire", hall.settle(1), Checks.INVALID);
        due("negative", hall.settle(-1), Checks.INVALID);
    }

    private static void settleNotPossible() {
        VillageHall hall = Checks.hallWithHirers(1);
        hall.hire(0, 1, 0, 1012, 2, 1);
        hall.lend(0, 0);
        hall.pass(1);
        due("one is planned", hall.settle(0), Checks.NOT_POSSIBLE);
        hall.pass(1);
        due("a key is out", hall.settle(0), Checks.NOT_POSSIBLE);
        hall.bringBack(0);
        due("all is back", hall.settle(0), 5000);
    }

    private static void settleAfterCancelling() {
        VillageHall hall = Checks.hallWithHirers(1);
        hall.set(5, 0);
        hall.hire(0, 1, 10, 1012, 2, 1);
        hall.hire(0, 2, 10, 1012, 1, 1);
        hall.cancel(0);
        hall.cancel(1);
        due("all are cancelled, there is no deposit", hall.settle(0), 0);
        due("settled", hall.hireInfo(0, 15), 1);
        due("the other one is not", hall.settle(1), Checks.NOT_POSSIBLE);
    }
}
