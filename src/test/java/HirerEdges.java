import java.util.function.Supplier;

/** Sentences of the document about hirers and settings: promises 1 to 5. */
final class HirerEdges {
    private static final int[] MOST = {5000, 5000, 5000, 100, 3, 50000, 5000, 30};
    private static final int[] FIRST = {1200, 800, 600, 25, 1, 5000, 300, 2};

    private final Edges edges;

    HirerEdges(Edges edges) {
        this.edges = edges;
    }

    void run() {
        aNewHallIsEmpty();
        theFirstDay();
        theFirstText();
        theFirstKeys();
        theFirstSettings();
        theLastCall();
        hirersAreNumberedFromZero();
        tenHirers();
        propertiesOfHirers();
        numbersOfHirers();
        debts();
        whatWasPaid();
        plannedSessionsOfHirers();
        keysOfHirers();
        amounts();
        theMostPaid();
        theMostPaidWithARefund();
        theMostPaidWithADeposit();
        wrongAmountsAtTheMost();
        numbersOfSettings();
        valuesOfSettings();
        previousValues();
    }

    private void due(String what, long got, long want) {
        edges.due(what, got, want);
    }

    private void aNewHallIsEmpty() {
        edges.sentence(1, "Creates a hall without hirers and hires, all keys in the box.");
        VillageHall hall = new VillageHall();
        due("hirers", hall.count(1), 0);
        due("hires", hall.count(2), 0);
        due("sessions", hall.count(3), 0);
        due("keys in the box", hall.count(4), 6);
        due("the hirer 0", hall.hirer(0, 0), Checks.INVALID);
        due("the hire 0", hall.hireInfo(0, 0), Checks.INVALID);
        due("the session 0", hall.session(0, 0), Checks.INVALID);
        due("the first in order", hall.inOrder(0), Checks.NOT_FOUND);
        due("states", hall.count(7), 0);
        for (int account = 20; account <= 28; account++) {
            due("count(" + account + ")", hall.count(account), 0);
        }
        hall.addHirer();
        due("another hall stays without hirers", new VillageHall().count(1), 0);
    }

    private void theFirstDay() {
        edges.sentence(1, "The present day is initially 0.");
        due("the present day", new VillageHall().count(0), 0);
        due("a hire on it", Checks.hallWithHirers(1).hire(0, 1, 0, 1011, 1, 1), 0);
        edges.refused("a hire the day before", () -> Checks.hallWithHirers(1), h -> h.hire(0, 1, -1, 1011, 1, 1),
                Checks.INVALID);
    }

    private void theFirstText() {
        edges.sentence(1, "There is a text of at most 80 characters, initially empty.");
        VillageHall hall = new VillageHall();
        due("its length", hall.count(8), 0);
        due("its fault", hall.textFault(0), Checks.NOT_FOUND);
        due("its first character", hall.type('0'), 1);
    }

    private void theFirstKeys() {
        edges.sentence(1, "A key is in the box (initially) or lent to one hirer.");
        VillageHall hall = new VillageHall();
        for (int key = 0; key < 6; key++) {
            due("holder of the key " + key, hall.key(key, 1), Checks.NOT_FOUND);
            due("bringBack(" + key + ")", hall.bringBack(key), Checks.NOT_POSSIBLE);
        }
    }

    private void theFirstSettings() {
        edges.sentence(1, "The settings are (in parentheses: range; first value)");
        VillageHall hall = new VillageHall();
        for (int what = 0; what < FIRST.length; what++) {
            due("setting " + what, hall.count(10 + what), FIRST[what]);
        }
    }

    private void theLastCall() {
        edges.sentence(1, "An object is used for at most 512 calls after it has been made");
        VillageHall hall = Checks.hallWithHirers(1);
        for (int call = 2; call <= 511; call++) {
            hall.pay(0, 1);
        }
        due("the call 512", hall.pay(0, 1), -511);
    }

    private void hirersAreNumberedFromZero() {
        edges.sentence(2, "There are at most 10 hirers, numbered from 0.");
        VillageHall hall = new VillageHall();
        for (int hirer = 0; hirer < 10; hirer++) {
            due("hirers before", hall.count(1), hirer);
            due("addHirer", hall.addHirer(), hirer);
        }
        due("hirers at last", hall.count(1), 10);
    }

    private void tenHirers() {
        edges.sentence(2, "LIMIT_REACHED if there are 10.");
        due("the tenth", Checks.hallWithHirers(9).addHirer(), 9);
        edges.refused("the eleventh", () -> Checks.hallWithHirers(10), VillageHall::addHirer, Checks.LIMIT);
        edges.refused("the eleventh of a full hall", Scenes::full, VillageHall::addHirer, Checks.LIMIT);
        VillageHall hall = Checks.hallWithHirers(10);
        hall.undo();
        due("the tenth again after undo", hall.addHirer(), 9);
        due("then an eleventh", hall.addHirer(), Checks.LIMIT);
    }

    private void propertiesOfHirers() {
        edges.sentence(3, "`what`: 0: what was charged; 1: what was paid (refunds and deposits given back included); "
                + "2: the debt; 3: hires; 4: planned sessions; 5: keys; 6: faults that were reported");
        Supplier<VillageHall> one = () -> Checks.hallWithHirers(1);
        for (int what = 0; what <= 6; what++) {
            due("hirer(0, " + what + ")", one.get().hirer(0, what), 0);
        }
        for (int what : new int[] {-1, 7, Integer.MIN_VALUE, Integer.MAX_VALUE}) {
            edges.refused("hirer(0, " + what + ")", one, h -> h.hirer(0, what), Checks.INVALID);
        }
        VillageHall full = Scenes.full();
        due("hires of a full hall", full.hirer(0, 3), 12);
        due("planned sessions of a full hall", full.hirer(0, 4), 240);
        due("keys of a full hall", full.hirer(0, 5), 6);
        edges.onlyTells("hirer", Scenes::busy, h -> h.hirer(1, 2));
    }

    private void numbersOfHirers() {
        edges.sentence(3, "`hirer`: number of the hirer");
        for (int hirers : new int[] {0, 1, 10}) {
            Supplier<VillageHall> scene = () -> Checks.hallWithHirers(hirers);
            for (int hirer : new int[] {-1, hirers, Integer.MIN_VALUE, Integer.MAX_VALUE}) {
                edges.refused("hirer(" + hirer + ", 0) of " + hirers, scene, h -> h.hirer(hirer, 0), Checks.INVALID);
                edges.refused("pay(" + hirer + ", 1) of " + hirers, scene, h -> h.pay(hirer, 1), Checks.INVALID);
            }
        }
        due("the only one", Checks.hallWithHirers(1).hirer(0, 0), 0);
        due("the last of 10", Checks.hallWithHirers(10).hirer(9, 0), 0);
        due("the last of 10 pays", Checks.hallWithHirers(10).pay(9, 1), -1);
        VillageHall hall = Checks.hallWithHirers(2);
        hall.undo();
        due("one who was undone", hall.hirer(1, 0), Checks.INVALID);
    }

    private void debts() {
        edges.sentence(3, "The debt of a hirer is charged minus paid (negative if too much was paid).");
        VillageHall hall = Checks.hallWithHirers(1);
        hall.hire(0, 4, 0, 1011, 1, 1);     // 600 and 5000
        hall.pay(0, 5599);
        due("one is missing", hall.hirer(0, 2), 1);
        hall.pay(0, 1);
        due("all is paid", hall.hirer(0, 2), 0);
        hall.pay(0, 1);
        due("one is too much", hall.hirer(0, 2), -1);
        due("charged", hall.hirer(0, 0), 5600);
        due("paid", hall.hirer(0, 1), 5601);
    }

    private void whatWasPaid() {
        edges.sentence(3, "1: what was paid (refunds and deposits given back included)");
        VillageHall hall = Checks.hallWithHirers(1);
        hall.hire(0, 4, 14, 1011, 1, 1);
        due("at first", hall.hirer(0, 1), 0);
        hall.pay(0, 1);
        due("with a payment", hall.hirer(0, 1), 1);
        hall.cancel(0);
        due("with a refund", hall.hirer(0, 1), 601);
        hall.settle(0);
        due("with a deposit", hall.hirer(0, 1), 5601);
    }

    private void plannedSessionsOfHirers() {
        edges.sentence(3, "4: planned sessions");
        VillageHall hall = Checks.hallWithHirers(2);
        hall.hire(1, 1, 0, 1011, 1, 1);
        hall.hire(1, 1, 1, 1011, 3, 1);
        due("all of both hires", hall.hirer(1, 4), 4);
        hall.pass(1);
        due("without the held one", hall.hirer(1, 4), 3);
        hall.cancel(21);
        due("without the cancelled one", hall.hirer(1, 4), 2);
        hall.pass(3);
        due("none is left", hall.hirer(1, 4), 0);
        due("none of another hirer", hall.hirer(0, 4), 0);
    }

    private void keysOfHirers() {
        edges.sentence(3, "5: keys");
        VillageHall hall = Checks.hallWithHirers(2);
        hall.hire(1, 7, 0, 1011, 1, 1);
        for (int key = 0; key < 6; key++) {
            due("keys before the key " + key, hall.hirer(1, 5), key);
            hall.lend(key, 0);
        }
        due("all of them", hall.hirer(1, 5), 6);
        due("none of another hirer", hall.hirer(0, 5), 0);
        hall.pass(1);
        hall.bringBack(3);
        due("without the one that is back", hall.hirer(1, 5), 5);
    }

    private void amounts() {
        edges.sentence(4, "`amount`: 1 to 1000000");
        due("the least", Scenes.busy().pay(0, 1), Scenes.busy().hirer(0, 2) - 1);
        due("the most", Scenes.busy().pay(0, 1000000), Scenes.busy().hirer(0, 2) - 1000000);
        for (int amount : new int[] {0, -1, 1000001, Integer.MIN_VALUE, Integer.MAX_VALUE}) {
            edges.refused("pay(0, " + amount + ")", Scenes::busy, h -> h.pay(0, amount), Checks.INVALID);
        }
        edges.refused("no such hirer", Scenes::busy, h -> h.pay(2, 1), Checks.INVALID);
    }

    /** 1000000 for the given number of times, with two hirers and the hire of the scene. */
    private static VillageHall afterPayments(VillageHall hall, int times) {
        for (int paid = 0; paid < times; paid++) {
            hall.pay(0, 1000000);
        }
        return hall;
    }

    private static VillageHall richHall() {
        return afterPayments(Checks.hallWithHirers(2), 99);
    }

    private void theMostPaid() {
        edges.sentence(4, "LIMIT_REACHED if this hirer would have paid more than 100000000");
        VillageHall hall = richHall();
        due("the last one that is allowed", hall.pay(0, 1000000), -100000000);
        due("one more", hall.pay(0, 1), Checks.LIMIT);
        due("the most more", hall.pay(0, 1000000), Checks.LIMIT);
        due("another hirer", hall.pay(1, 1000000), -1000000);
        hall = richHall();
        hall.pay(0, 1);
        due("one too much", hall.pay(0, 1000000), Checks.LIMIT);
        due("right up to it", hall.pay(0, 999999), -100000000);
        edges.refused("one beyond it", () -> afterPayments(richHall(), 1), h -> h.pay(0, 1), Checks.LIMIT);
    }

    private void theMostPaidWithARefund() {
        edges.sentence(4, "(refunds and deposits given back included)");
        Supplier<VillageHall> scene = () -> {
            VillageHall hall = Checks.hallWithHirers(2);
            hall.set(5, 0);
            hall.hire(0, 4, 14, 1011, 1, 1);
            hall.cancel(0);                 // 600
            return afterPayments(hall, 99);
        };
        edges.refused("one too much with the refund", scene, h -> h.pay(0, 999401), Checks.LIMIT);
        due("up to it with the refund", scene.get().pay(0, 999400), 600 - 100000000);
    }

    private void theMostPaidWithADeposit() {
        edges.sentence(4, "(refunds and deposits given back included)");
        Supplier<VillageHall> scene = () -> {
            VillageHall hall = Checks.hallWithHirers(2);
            hall.set(5, 50000);
            hall.hire(0, 4, 0, 1011, 1, 1);
            hall.pass(1);
            hall.settle(0);                 // 50000
            return afterPayments(hall, 99);
        };
        edges.refused("one too much with the deposit", scene, h -> h.pay(0, 950001), Checks.LIMIT);
        due("up to it with the deposit", scene.get().pay(0, 950000), 50600 - 100000000);
    }

    private void wrongAmountsAtTheMost() {
        edges.sentence(4, "INVALID_ARGUMENT if an argument is out of range; LIMIT_REACHED if");
        Supplier<VillageHall> scene = () -> afterPayments(richHall(), 1);
        edges.refused("0 at the limit", scene, h -> h.pay(0, 0), Checks.INVALID);
        edges.refused("1000001 at the limit", scene, h -> h.pay(0, 1000001), Checks.INVALID);
        edges.refused("no such hirer at the limit", scene, h -> h.pay(2, 1000000), Checks.INVALID);
    }

    private void numbersOfSettings() {
        edges.sentence(5, "`what`: 0 to 7");
        for (int what : new int[] {-1, 8, Integer.MIN_VALUE, Integer.MAX_VALUE}) {
            edges.refused("set(" + what + ", 0)", Scenes::busy, h -> h.set(what, 0), Checks.INVALID);
        }
        due("the first one", new VillageHall().set(0, 0), 1200);
        due("the last one", new VillageHall().set(7, 0), 2);
    }

    private void valuesOfSettings() {
        edges.sentence(5, "`value`: a value in its range");
        for (int what = 0; what < MOST.length; what++) {
            int setting = what;
            for (int value : new int[] {-1, MOST[what] + 1, Integer.MIN_VALUE, Integer.MAX_VALUE}) {
                edges.refused("set(" + what + ", " + value + ")", Scenes::busy, h -> h.set(setting, value),
                        Checks.INVALID);
            }
            for (int value : new int[] {0, MOST[what]}) {
                VillageHall hall = Scenes.busy();
                due("set(" + what + ", " + value + ")", hall.set(what, value), FIRST[what]);
                due("count then", hall.count(10 + what), value);
            }
        }
    }

    private void previousValues() {
        edges.sentence(5, "Returns the previous value");
        for (int what = 0; what < MOST.length; what++) {
            VillageHall hall = new VillageHall();
            due("the first one of " + what, hall.set(what, MOST[what]), FIRST[what]);
            due("the most of " + what, hall.set(what, 0), MOST[what]);
            due("the least of " + what, hall.set(what, 0), 0);
            hall.undo();
            hall.undo();
            due("after undo of " + what, hall.set(what, 1), MOST[what]);
            due("the other settings stay, of " + what, hall.count(10 + (what + 1) % 8), FIRST[(what + 1) % 8]);
        }
    }
}
