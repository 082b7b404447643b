import java.util.function.Supplier;

/** Sentences of the document about days that go by, late fees and numbers: promises 15 and 16. */
final class DayEdges {
    private static final int[] COUNTS_OF_A_NEW_HALL = {0, 0, 0, 0, 6, 0, 0, 0, 0};

    private final Edges edges;

    DayEdges(Edges edges) {
        this.edges = edges;
    }

    void run() {
        daysToPass();
        theLastPresentDay();
        wrongDaysAtTheEnd();
        sessionsOfThePresentDay();
        howManyAreHeld();
        theDayGrows();
        keysThatAreLate();
        feesAsTheyAreSetNow();
        feesForEachDay();
        feesAsFarAsHeld();
        feesOfEachKey();
        numbersOfCounts();
        sessionsOfTheHall();
        keysOfTheHall();
        lateKeys();
        hoursHeld();
        statesAndCharacters();
        settingsAndAccounts();
        accountsAddUp();
    }

    private void due(String what, long got, long want) {
        edges.due(what, got, want);
    }

    private void daysToPass() {
        edges.sentence(15, "`days`: 1 to 60");
        for (int days : new int[] {1, 2, 59, 60}) {
            VillageHall hall = new VillageHall();
            due("pass(" + days + ")", hall.pass(days), 0);
            due("the day then", hall.count(0), days);
        }
        for (int days : new int[] {0, -1, 61, Integer.MIN_VALUE, Integer.MAX_VALUE}) {
            edges.refused("pass(" + days + ")", Scenes::busy, h -> h.pass(days), Checks.INVALID);
        }
    }

    private void theLastPresentDay() {
        edges.sentence(15, "LIMIT_REACHED if the present day would be greater than 400.");
        for (int days : new int[] {1, 2, 60}) {
            VillageHall hall = Scenes.onDay(1, 400 - days);
            due("up to 400 by " + days, hall.pass(days), 0);
            due("the day by " + days, hall.count(0), 400);
            edges.refused("up to 401 by " + days, () -> Scenes.onDay(1, 401 - days), h -> h.pass(days), Checks.LIMIT);
        }
        edges.refused("60 days on 400", () -> Scenes.onDay(1, 400), h -> h.pass(60), Checks.LIMIT);
        VillageHall hall = Scenes.onDay(1, 400);
        hall.undo();
        due("after undo", hall.pass(1), 0);
    }

    private void wrongDaysAtTheEnd() {
        edges.sentence(15, "INVALID_ARGUMENT if days is out of range; LIMIT_REACHED if");
        for (int days : new int[] {0, 61}) {
            edges.refused("pass(" + days + ") on 400", () -> Scenes.onDay(1, 400), h -> h.pass(days), Checks.INVALID);
        }
    }

    private void sessionsOfThePresentDay() {
        edges.sentence(15, "first the planned sessions of the present day are held; then the present day grows by 1");
        VillageHall hall = Scenes.onDay(1, 10);
        hall.hire(0, 1, 10, 1011, 3, 1);
        due("on the day", hall.session(0, 1), 0);
        due("a day goes by", hall.pass(1), 1);
        due("the day's is held", hall.session(0, 1), 1);
        due("the next day's is not", hall.session(1, 1), 0);
        hall.cancel(1);
        due("a cancelled one", hall.pass(1), 0);
        due("it stays cancelled", hall.session(1, 1), 2);
        due("the next one", hall.pass(1), 1);
        VillageHall last = Scenes.onDay(1, 364);
        last.hire(0, 1, 364, 1011, 1, 1);
        due("the last day's", last.pass(1), 1);
        due("the day behind", last.count(0), 365);
        due("no more", last.pass(35), 0);
    }

    private void howManyAreHeld() {
        edges.sentence(15, "Returns how many sessions are held");
        due("none", Scenes.onDay(1, 0).pass(60), 0);
        due("those of a day", Scenes.full().pass(1), 12);
        due("but those of the last day", Scenes.full().pass(19), 228);
        due("all", Scenes.full().pass(20), 240);
        due("all, and no more", Scenes.full().pass(60), 240);
        VillageHall hall = Checks.hallWithHirers(1);
        hall.hire(0, 1, 60, 1011, 1, 1);
        due("before the day 60", hall.pass(60), 0);
        due("on the day 60", hall.pass(1), 1);
    }

    private void theDayGrows() {
        edges.sentence(15, "the present day grows by 1");
        VillageHall hall = Checks.hallWithHirers(1);
        hall.hire(0, 1, 0, 1011, 1, 1);
        hall.pass(1);
        edges.due("the day", hall.count(0), 1);
        due("a hire the day before", hall.hire(0, 1, 0, 1213, 1, 1), Checks.INVALID);
        hall.undo();
        due("the day after undo", hall.count(0), 0);
        due("then it can be made", hall.hire(0, 1, 0, 1213, 1, 1), 1);
    }

    /** A key that is lent for a session of the day 0. */
    private static VillageHall hallWithKey(int daysForKeys, int deposit, int fee) {
        VillageHall hall = Checks.hallWithHirers(2);
        hall.set(7, daysForKeys);
        hall.set(5, deposit);
        hall.set(6, fee);
        hall.hire(0, 1, 0, 1011, 1, 1);
        hall.lend(0, 0);
        return hall;
    }

    private void keysThatAreLate() {
        edges.sentence(15, "a key is late if it is lent and the present day is after its due day.");
        for (int days : new int[] {0, 1, 2, 30}) {
            VillageHall hall = hallWithKey(days, 5000, 300);
            Scenes.goTo(hall, days);
            due("late keys on the due day " + days, hall.count(5), 0);
            due("fees on the due day " + days, hall.count(25), 0);
            hall.pass(1);
            due("late keys after the due day " + days, hall.count(5), 1);
            due("fees after the due day " + days, hall.count(25), 300);
            hall.bringBack(0);
            hall.pass(1);
            due("late keys when it is back, " + days, hall.count(5), 0);
            due("fees when it is back, " + days, hall.count(25), 300);
        }
    }

    private void feesAsTheyAreSetNow() {
        edges.sentence(15, "costs its holder the late fee, as it is set now, for this day");
        VillageHall hall = hallWithKey(0, 50000, 5000);
        hall.pass(1);
        due("the greatest fee", hall.count(25), 5000);
        hall.set(6, 1);
        hall.pass(1);
        due("the least fee more", hall.count(25), 5001);
        hall.set(6, 0);
        hall.pass(10);
        due("nothing more", hall.count(25), 5001);
        due("no late fee is charged", hall.count(27), 0);
        due("the key is late all the same", hall.key(0, 4), 12);
    }

    private void feesForEachDay() {
        edges.sentence(15, "When a day goes by");
        VillageHall hall = hallWithKey(2, 50000, 300);
        hall.pass(60);
        due("58 days in one call", hall.count(25), 58 * 300);
        hall = hallWithKey(2, 50000, 300);
        for (int day = 0; day < 60; day++) {
            hall.pass(1);
        }
        due("58 days in 60 calls", hall.count(25), 58 * 300);
    }

    private void feesAsFarAsHeld() {
        edges.sentence(15, "Late fees are taken from the deposit of the hire for which it was lent, as far as this is "
                + "held; what is missing is charged.");
        int[][] want = {{0, 0, 300}, {1, 1, 299}, {299, 299, 1}, {300, 300, 0}, {301, 300, 0}};
        for (int[] row : want) {
            VillageHall hall = hallWithKey(0, row[0], 300);
            int charged = hall.hirer(0, 0);
            hall.pass(1);
            String what = " of the deposit " + row[0];
            due("kept" + what, hall.count(25), row[1]);
            due("held" + what, hall.hireInfo(0, 12), row[0] - row[1]);
            due("held by the hall" + what, hall.count(23), row[0] - row[1]);
            due("charged beyond" + what, hall.count(27), row[2]);
            due("charged to the holder" + what, hall.hirer(0, 0) - charged, row[2]);
            due("charged to another hirer" + what, hall.hirer(1, 0), 0);
            due("nothing is kept for faults" + what, hall.count(24), 0);
        }
        VillageHall hall = hallWithKey(0, 1000, 300);
        hall.pass(4);
        due("kept of four days", hall.count(25), 1000);
        due("charged of four days", hall.count(27), 200);
    }

    private void feesOfEachKey() {
        edges.sentence(15, "then each key that is late, in ascending order");
        VillageHall hall = Checks.hallWithHirers(2);
        hall.set(7, 0);
        hall.hire(0, 7, 0, 1011, 1, 1);
        hall.hire(1, 7, 0, 1213, 2, 1);
        for (int key = 0; key < 5; key++) {
            hall.lend(key, 0);
        }
        hall.lend(5, 1);
        hall.pass(1);
        due("five keys of a hire", hall.hireInfo(0, 12), 5000 - 1500);
        due("the sixth is not late", hall.hireInfo(1, 12), 5000);
        hall.pass(1);
        due("five keys again", hall.hireInfo(0, 12), 5000 - 3000);
        due("the sixth", hall.hireInfo(1, 12), 5000 - 300);
        due("all of them", hall.count(25), 3300);
    }

    private void numbersOfCounts() {
        edges.sentence(16, "10 to 17: the settings 0 to 7; 20 to 28: the accounts 0 to 8");
        int[] wrong = {-1, 9, 18, 19, 29, 30, Integer.MIN_VALUE, Integer.MAX_VALUE};
        for (int what : wrong) {
            edges.refused("count(" + what + ")", Scenes::busy, h -> h.count(what), Checks.INVALID);
        }
        for (int what = 0; what < COUNTS_OF_A_NEW_HALL.length; what++) {
            due("count(" + what + ") of a new hall", new VillageHall().count(what), COUNTS_OF_A_NEW_HALL[what]);
        }
        edges.onlyTells("count", Scenes::busy, h -> h.count(0));
        int[] full = {0, 10, 12, 240, 0, 0, 0, 4, 80};
        for (int what = 0; what < full.length; what++) {
            due("count(" + what + ") of a full hall", Scenes.full().count(what), full[what]);
        }
    }

    private void sessionsOfTheHall() {
        edges.sentence(16, "3: sessions that are not cancelled");
        VillageHall hall = Checks.hallWithHirers(1);
        hall.hire(0, 1, 0, 1011, 2, 1);
        due("planned", hall.count(3), 2);
        hall.pass(1);
        due("with a held one", hall.count(3), 2);
        hall.cancel(1);
        due("without a cancelled one", hall.count(3), 1);
        hall.undo();
        due("after undo", hall.count(3), 2);
    }

    private void keysOfTheHall() {
        edges.sentence(16, "4: keys in the box");
        VillageHall hall = Checks.hallWithHirers(1);
        hall.hire(0, 7, 0, 1011, 1, 1);
        for (int key = 0; key < 6; key++) {
            due("before the key " + key, hall.count(4), 6 - key);
            hall.lend(key, 0);
        }
        due("none", hall.count(4), 0);
        hall.bringBack(5);
        due("one is back", hall.count(4), 1);
    }

    private void lateKeys() {
        edges.sentence(16, "5: late keys");
        VillageHall hall = Scenes.full();
        Scenes.goTo(hall, 21);
        due("none on the due day of all", hall.count(5), 0);
        hall.pass(1);
        due("all the day after", hall.count(5), 6);
        hall.bringBack(0);
        due("without one that is back", hall.count(5), 5);
    }

    private void hoursHeld() {
        edges.sentence(16, "6: hours of all rooms together that were held");
        VillageHall hall = Checks.hallWithHirers(1);
        hall.hire(0, 7, 0, 24, 3, 1);
        due("none", hall.count(6), 0);
        hall.pass(1);
        due("all hours of a day", hall.count(6), 72);
        hall.cancel(1);
        hall.pass(1);
        due("without a cancelled session", hall.count(6), 72);
        hall.pass(1);
        due("of two days", hall.count(6), 144);
        due("of a full hall", after(Scenes.full(), 20).count(6), 720);
    }

    private static VillageHall after(VillageHall hall, int days) {
        hall.pass(days);
        return hall;
    }

    private void statesAndCharacters() {
        edges.sentence(16, "7: states in the history; 8: the length of the text");
        VillageHall hall = new VillageHall();
        for (int made = 1; made <= 6; made++) {
            hall.addHirer();
            hall.type('x');
            due("states after " + made, hall.count(7), Math.min(made, 4));
            due("length after " + made, hall.count(8), made);
        }
        hall.undo();
        due("states after undo", hall.count(7), 3);
        due("length after undo", hall.count(8), 6);
    }

    private void settingsAndAccounts() {
        edges.sentence(16, "The accounts of the hall are 0 prices charged, 1 refunds by cancelling, 2 deposits taken, "
                + "3 deposits held, 4 deposits kept for faults, 5 deposits kept for late keys, 6 deposits given back, "
                + "7 charged for faults and late keys beyond deposits, 8 payments of hirers.");
        VillageHall hall = Scenes.busy();
        hall.report(0, 2);                  // 4000: 1000 of the deposit, 3000 beyond it
        hall.pay(1, 7);
        // 12000 + 1200 + 6000 + 2000; half of 3000 for the session 41; two days of the key 2
        int[] want = {21200, 1500, 20000, 9400, 5000, 600, 5000, 3000, 7};
        for (int account = 0; account < want.length; account++) {
            due("account " + account, hall.count(20 + account), want[account]);
        }
    }

    private void accountsAddUp() {
        edges.sentence(16, "(2 is the sum of 3 to 6; the debts of all hirers together are 0 - 1 + 2 - 6 + 7 - 8.)");
        for (int change = 0; change < Scenes.CHANGES; change++) {
            VillageHall hall = Scenes.busy();
            checkAccounts("before " + Scenes.CHANGE_NAMES[change], hall);
            Scenes.change(hall, change);
            checkAccounts("after " + Scenes.CHANGE_NAMES[change], hall);
            hall.undo();
            checkAccounts("after undo of " + Scenes.CHANGE_NAMES[change], hall);
        }
        Supplier<VillageHall> late = () -> after(Scenes.full(), 60);
        checkAccounts("in a full hall with late keys", late.get());
        due("what is kept for late keys there", late.get().count(25), 6 * 5000);
        due("what is charged beyond there", late.get().count(27), 6 * (39 * 300 - 5000));
    }

    private void checkAccounts(String when, VillageHall hall) {
        int[] accounts = new int[9];
        for (int account = 0; account < accounts.length; account++) {
            accounts[account] = hall.count(20 + account);
        }
        int debts = 0;
        for (int hirer = 0; hirer < hall.count(1); hirer++) {
            debts += hall.hirer(hirer, 2);
        }
        due("deposits " + when, accounts[2], accounts[3] + accounts[4] + accounts[5] + accounts[6]);
        due("debts " + when, debts,
                accounts[0] - accounts[1] + accounts[2] - accounts[6] + accounts[7] - accounts[8]);
    }
}
