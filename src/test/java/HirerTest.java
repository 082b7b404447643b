/** Promises 1 to 5: a new object, addHirer, hirer, pay, set. */
public final class HirerTest {
    private static final Checks CHECKS = new Checks("HirerTest");

    public static void main(String[] args) {
        newObject();
        addHirer();
        hirerOfSeveralHires();
        hirerWrongArguments();
        pay();
        payUpToTheLimit();
        refundsCountForTheLimit();
        set();
        CHECKS.end();
    }

    private static void due(String what, long got, long want) {
        CHECKS.due(what, got, want);
    }

    private static void newObject() {
        VillageHall hall = new VillageHall();
        int[] first = {0, 0, 0, 0, 6, 0, 0, 0, 0};
        for (int what = 0; what < first.length; what++) {
            due("new: count(" + what + ")", hall.count(what), first[what]);
        }
        int[] settings = {1200, 800, 600, 25, 1, 5000, 300, 2};
        for (int what = 0; what < settings.length; what++) {
            due("new: setting " + what, hall.count(10 + what), settings[what]);
        }
        for (int account = 0; account <= 8; account++) {
            due("new: account " + account, hall.count(20 + account), 0);
        }
        for (int key = 0; key < 6; key++) {
            due("new: room of the key " + key, hall.key(key, 0), key % 3);
            due("new: holder of the key " + key, hall.key(key, 1), Checks.NOT_FOUND);
        }
        due("new: clash", hall.clash(), Checks.NOT_FOUND);
        due("new: undo", hall.undo(), Checks.NOT_POSSIBLE);
        due("new: hirer(0, 0)", hall.hirer(0, 0), Checks.INVALID);
        due("new: hireInfo(0, 0)", hall.hireInfo(0, 0), Checks.INVALID);
        due("new: session(0, 0)", hall.session(0, 0), Checks.INVALID);
        due("new: inOrder(0)", hall.inOrder(0), Checks.NOT_FOUND);
        due("new: taken", hall.taken(0, 7), 0);
        due("new: clearText", hall.clearText(), 0);
    }

    private static void addHirer() {
        VillageHall hall = new VillageHall();
        for (int hirer = 0; hirer < 10; hirer++) {
            due("addHirer", hall.addHirer(), hirer);
            due("hirers", hall.count(1), hirer + 1);
        }
        due("an eleventh hirer", hall.addHirer(), Checks.LIMIT);
        due("hirers then", hall.count(1), 10);
        due("states then", hall.count(7), 4);
        due("the tenth hirer", hall.hirer(9, 2), 0);
        due("no eleventh hirer", hall.hirer(10, 2), Checks.INVALID);
    }

    private static void hirerOfSeveralHires() {
        VillageHall hall = Checks.hallWithHirers(3);
        hall.hire(1, 1, 0, 912, 3, 1);      // 3 * 3600, room 0
        hall.hire(2, 2, 0, 912, 1, 1);      // 2400, room 1
        hall.hire(1, 6, 20, 1012, 2, 7);    // 2 * 2800, rooms 1 and 2
        hall.lend(0, 0);
        hall.lend(1, 2);
        hall.lend(4, 1);
        hall.cancel(40);                    // 20 days ahead: 2800
        hall.pass(2);                       // the sessions 0, 1 and 20 are held
        hall.report(0, 2);                  // 4000, from the deposit
        hall.report(1, 2);                  // 4000: 1000 from the deposit
        due("charged of 1", hall.hirer(1, 0), 10800 + 5000 + 5600 + 5000 + 3000);
        due("paid of 1", hall.hirer(1, 1), 2800);
        due("debt of 1", hall.hirer(1, 2), 29400 - 2800);
        due("hires of 1", hall.hirer(1, 3), 2);
        due("planned of 1", hall.hirer(1, 4), 2);
        due("keys of 1", hall.hirer(1, 5), 2);
        due("faults of 1", hall.hirer(1, 6), 2);
        due("charged of 2", hall.hirer(2, 0), 7400);
        due("hires of 2", hall.hirer(2, 3), 1);
        due("planned of 2", hall.hirer(2, 4), 0);
        due("keys of 2", hall.hirer(2, 5), 1);
        due("faults of 2", hall.hirer(2, 6), 0);
        for (int what = 0; what <= 6; what++) {
            due("hirer(0, " + what + ")", hall.hirer(0, what), 0);
        }
        hall.bringBack(4);
        hall.settle(1);
        due("paid of 2 with the deposit given back", hall.hirer(2, 1), 5000);
        due("keys of 2 then", hall.hirer(2, 5), 0);
    }

    private static void hirerWrongArguments() {
        VillageHall hall = Checks.hallWithHirers(2);
        int[][] wrong = {{-1, 0}, {2, 0}, {0, -1}, {0, 7}, {Integer.MIN_VALUE, 0}, {Integer.MAX_VALUE, 0},
            {0, Integer.MAX_VALUE}, {0, Integer.MIN_VALUE}};
        for (int[] pair : wrong) {
            due("hirer(" + pair[0] + ", " + pair[1] + ")", hall.hirer(pair[0], pair[1]), Checks.INVALID);
        }
    }

    private static void pay() {
        VillageHall hall = Checks.hallWithHirers(2);
        hall.hire(1, 4, 0, 1011, 1, 1);
        due("a part is paid", hall.pay(1, 600), 5000);
        due("too much is paid", hall.pay(1, 1000000), -995000);
        due("paid", hall.hirer(1, 1), 1000600);
        due("charged stays", hall.hirer(1, 0), 5600);
        due("payments", hall.count(28), 1000600);
        due("the other one pays", hall.pay(0, 1), -1);
        due("payments then", hall.count(28), 1000601);
        due("states", hall.count(7), 4);
        due("undo of pay", hall.undo(), 3);
        due("payments after undo", hall.count(28), 1000600);
        due("debt after undo", hall.hirer(0, 2), 0);
        int[][] wrong = {{0, 0}, {0, -1}, {0, 1000001}, {-1, 1}, {2, 1}, {0, Integer.MAX_VALUE}};
        for (int[] pair : wrong) {
            due("pay(" + pair[0] + ", " + pair[1] + ")", hall.pay(pair[0], pair[1]), Checks.INVALID);
        }
        due("states stay", hall.count(7), 3);
    }

    private static void payUpToTheLimit() {
        VillageHall hall = Checks.hallWithHirers(2);
        for (int times = 1; times <= 99; times++) {
            hall.pay(0, 1000000);
        }
        due("one short", hall.pay(0, 999999), -99999999);
        due("beyond the limit", hall.pay(0, 2), Checks.LIMIT);
        due("up to the limit", hall.pay(0, 1), -100000000);
        due("one beyond", hall.pay(0, 1), Checks.LIMIT);
        due("a wrong amount at the limit", hall.pay(0, 0), Checks.INVALID);
        due("another hirer", hall.pay(1, 1000000), -1000000);
        due("payments", hall.count(28), 101000000);
    }

    private static void refundsCountForTheLimit() {
        VillageHall hall = Checks.hallWithHirers(1);
        hall.hire(0, 4, 14, 1011, 1, 1);
        for (int times = 1; times <= 99; times++) {
            hall.pay(0, 1000000);
        }
        hall.pay(0, 999400);
        due("the refund", hall.cancel(0), 600);
        due("paid with the refund", hall.hirer(0, 1), 100000000);
        due("a payment beyond", hall.pay(0, 1), Checks.LIMIT);
        due("a deposit goes back all the same", hall.settle(0), 5000);
        due("paid then", hall.hirer(0, 1), 100005000);
    }

    private static void set() {
        int[] most = {5000, 5000, 5000, 100, 3, 50000, 5000, 30};
        int[] first = {1200, 800, 600, 25, 1, 5000, 300, 2};
        for (int what = 0; what < most.length; what++) {
            VillageHall hall = new VillageHall();
            String call = "set(" + what + ", ..)";
            due(call + " beyond", hall.set(what, most[what] + 1), Checks.INVALID);
            due(call + " below", hall.set(what, -1), Checks.INVALID);
            due(call + " changes nothing then", hall.count(7), 0);
            due(call + " most", hall.set(what, most[what]), first[what]);
            due(call + " is told", hall.count(10 + what), most[what]);
            due(call + " least", hall.set(what, 0), most[what]);
            due(call + " the same is a change", hall.set(what, 0), 0);
            due(call + " states", hall.count(7), 3);
            hall.undo();
            due(call + " undo", hall.undo(), 1);
            due(call + " after undo", hall.count(10 + what), most[what]);
        }
        VillageHall hall = new VillageHall();
        due("set(-1, 0)", hall.set(-1, 0), Checks.INVALID);
        due("set(8, 0)", hall.set(8, 0), Checks.INVALID);
        due("set(MAX, 0)", hall.set(Integer.MAX_VALUE, 0), Checks.INVALID);
        due("set(MIN, 0)", hall.set(Integer.MIN_VALUE, 0), Checks.INVALID);
    }
}
