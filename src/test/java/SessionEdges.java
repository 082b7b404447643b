import java.util.function.Supplier;

/** Sentences of the document about sessions, their shares, and cancelling: promises 9 and 10. */
final class SessionEdges {
    private final Edges edges;

    SessionEdges(Edges edges) {
        this.edges = edges;
    }

    void run() {
        numbersOfSessions();
        numbersThatAreNot();
        numbersOfProperties();
        whatCanNotBeCancelled();
        errorsInTheirOrder();
        shares();
        refundsByDays();
        refundsAreRoundedDown();
        refundsOfShares();
        daysOfCancelling();
        costsStay();
        notPlanned();
        noSuchSession();
    }

    private void due(String what, long got, long want) {
        edges.due(what, got, want);
    }

    private void numbersOfSessions() {
        edges.sentence(9, "The session k of the hire h has the number 20 * h + k.");
        VillageHall hall = Scenes.full();
        for (int hire = 0; hire < 12; hire++) {
            due("the first day of the hire " + hire, hall.session(20 * hire, 0), 0);
            due("the last day of the hire " + hire, hall.session(20 * hire + 19, 0), 19);
        }
        hall.cancel(39);
        due("the last one of the hire 1 is cancelled", hall.session(39, 1), 2);
        due("the first one of the hire 2 is not", hall.session(40, 1), 0);
        due("cancelled sessions of the hire 1", hall.hireInfo(1, 11), 1);
    }

    private void numbersThatAreNot() {
        edges.sentence(9, "If there is no hirer, hire, session or key with a certain number, this is "
                + "INVALID_ARGUMENT.");
        for (int session : new int[] {-1, -20, 240, 241, Integer.MIN_VALUE, Integer.MAX_VALUE}) {
            edges.refused("session(" + session + ", 0) of 240", Scenes::full, h -> h.session(session, 0),
                    Checks.INVALID);
        }
        edges.refused("none", VillageHall::new, h -> h.session(0, 0), Checks.INVALID);
        Supplier<VillageHall> scene = () -> {
            VillageHall hall = Checks.hallWithHirers(1);
            hall.hire(0, 1, 0, 1011, 1, 1);
            hall.hire(0, 1, 1, 1011, 19, 1);
            return hall;
        };
        for (int session : new int[] {1, 2, 19, 39, 40}) {
            edges.refused("session(" + session + ", 0)", scene, h -> h.session(session, 0), Checks.INVALID);
        }
        due("the only one", scene.get().session(0, 0), 0);
        due("the last one of 19", scene.get().session(38, 0), 19);
    }

    private void numbersOfProperties() {
        edges.sentence(9, "`what`: 0: its day; 1: 0 if it is planned, 1 held, 2 cancelled; 2: its share of the price; "
                + "3: what the hirer would get back if it were cancelled now");
        int[] want = {14, 0, 4000, 2000};
        for (int what = 0; what <= 3; what++) {
            due("session(2, " + what + ")", Scenes.busy().session(2, what), want[what]);
        }
        for (int what : new int[] {-1, 4, Integer.MIN_VALUE, Integer.MAX_VALUE}) {
            edges.refused("session(2, " + what + ")", Scenes::busy, h -> h.session(2, what), Checks.INVALID);
        }
        due("a held one", Scenes.busy().session(0, 1), 1);
        due("a cancelled one", Scenes.busy().session(41, 1), 2);
        edges.onlyTells("session", Scenes::busy, h -> h.session(2, 3));
    }

    private void whatCanNotBeCancelled() {
        edges.sentence(9, "NOT_FOUND for 3 if it can not be cancelled.");
        edges.refused("a held one", Scenes::busy, h -> h.session(0, 3), Checks.NOT_FOUND);
        edges.refused("a cancelled one", Scenes::busy, h -> h.session(41, 3), Checks.NOT_FOUND);
        VillageHall hall = Scenes.onDay(1, 10);
        hall.hire(0, 1, 10, 1011, 1, 1);
        due("one of today", hall.session(0, 3), 0);
        hall.pass(1);
        due("one of yesterday", hall.session(0, 3), Checks.NOT_FOUND);
        due("its day all the same", hall.session(0, 0), 10);
    }

    private void errorsInTheirOrder() {
        edges.sentence(9, "INVALID_ARGUMENT if an argument is out of range; NOT_FOUND for 3");
        edges.refused("4 of a held one", Scenes::busy, h -> h.session(0, 4), Checks.INVALID);
        edges.refused("3 of none", Scenes::busy, h -> h.session(3, 3), Checks.INVALID);
    }

    private static VillageHall series(int rate, int sessions) {
        VillageHall hall = Checks.hallWithHirers(1);
        hall.set(2, rate);
        hall.hire(0, 4, 0, 1011, sessions, 1);
        return hall;
    }

    /** The first sessions cost the given share and 1 more, the others the share. */
    private void checkShares(int rate, int sessions, int share, int costMore) {
        VillageHall hall = series(rate, sessions);
        String what = sessions + " at " + rate;
        due("price of " + what, hall.hireInfo(0, 7), share * sessions + costMore);
        for (int index = 0; index < sessions; index++) {
            due("share " + index + " of " + what, hall.session(index, 2), index < costMore ? share + 1 : share);
        }
    }

    private void shares() {
        edges.sentence(9, "Each session costs its share: price / n, and the first price modulo n sessions cost 1 "
                + "more.");
        checkShares(0, 20, 0, 0);
        checkShares(1, 1, 1, 0);
        checkShares(1, 20, 0, 16);          // 20 - 4
        checkShares(601, 3, 601, 0);
        checkShares(1201, 4, 1081, 0);      // 4804 - 480
        checkShares(1203, 4, 1082, 3);      // 4812 - 481
        checkShares(1204, 4, 1083, 3);      // 4816 - 481
        checkShares(3, 9, 2, 7);            // 27 - 2
        checkShares(7, 10, 5, 6);           // 70 - 14
        checkShares(5000, 19, 4000, 0);     // 95000 - 19000
    }

    private void refundsByDays() {
        edges.sentence(10, "100 percent if it is at least 14 days ahead (its day minus the present one), 50 percent if "
                + "at least 7, otherwise nothing.");
        int[][] want = {{0, 0}, {1, 0}, {6, 0}, {7, 300}, {8, 300}, {13, 300}, {14, 600}, {15, 600}, {354, 600}};
        for (int present : new int[] {0, 10}) {
            for (int[] row : want) {
                VillageHall hall = Scenes.onDay(1, present);
                hall.hire(0, 4, present + row[0], 1011, 1, 1);
                String what = row[0] + " days ahead on " + present;
                due("told " + what, hall.session(0, 3), row[1]);
                due("cancelled " + what, hall.cancel(0), row[1]);
                due("paid " + what, hall.hirer(0, 1), row[1]);
                due("refunds " + what, hall.count(21), row[1]);
            }
        }
        VillageHall hall = Checks.hallWithHirers(1);
        hall.hire(0, 4, 14, 1011, 1, 1);
        hall.pass(1);
        due("14 days ahead a day later", hall.session(0, 3), 300);
        hall.pass(6);
        due("7 days ahead", hall.session(0, 3), 300);
        hall.pass(1);
        due("6 days ahead", hall.session(0, 3), 0);
    }

    private void refundsAreRoundedDown() {
        edges.sentence(10, "divisions are rounded down.");
        int[][] want = {{0, 0}, {1, 0}, {2, 1}, {3, 1}, {601, 300}, {4999, 2499}};
        for (int[] row : want) {
            VillageHall hall = Checks.hallWithHirers(1);
            hall.set(2, row[0]);
            hall.hire(0, 4, 7, 1011, 1, 1);
            due("half of " + row[0], hall.cancel(0), row[1]);
        }
    }

    private void refundsOfShares() {
        edges.sentence(10, "Of its share the hirer gets back (as paid)");
        VillageHall hall = Checks.hallWithHirers(2);
        hall.set(2, 1203);
        hall.hire(1, 4, 0, 1011, 4, 14);    // 1083, 1083, 1083, 1082
        due("the share of the third one", hall.cancel(2), 1083);
        due("the share of the last one", hall.cancel(3), 1082);
        due("paid", hall.hirer(1, 1), 2165);
        due("no payment of the hirer", hall.count(28), 0);
        due("paid by the other one", hall.hirer(0, 1), 0);
    }

    private void daysOfCancelling() {
        edges.sentence(10, "A planned session of the present day or later can be cancelled.");
        VillageHall hall = Scenes.onDay(1, 10);
        hall.hire(0, 4, 10, 1011, 3, 1);
        due("the present day's", hall.cancel(0), 0);
        hall.pass(1);
        due("the present day's a day later", hall.cancel(1), 0);
        hall.undo();
        hall.pass(1);
        due("yesterday's", hall.cancel(1), Checks.NOT_POSSIBLE);
        due("that of today", hall.cancel(2), 0);
        VillageHall last = Scenes.onDay(1, 364);
        last.hire(0, 4, 364, 1011, 1, 1);
        due("the last day's", last.cancel(0), 0);
    }

    private void costsStay() {
        edges.sentence(10, "(What it costs stays charged.)");
        VillageHall hall = Checks.hallWithHirers(1);
        hall.hire(0, 4, 14, 1011, 1, 1);
        hall.cancel(0);
        due("charged", hall.hirer(0, 0), 5600);
        due("prices", hall.count(20), 600);
        due("the price of the hire", hall.hireInfo(0, 7), 600);
        due("the share", hall.session(0, 2), 600);
        due("what is held of the deposit", hall.hireInfo(0, 12), 5000);
    }

    private void notPlanned() {
        edges.sentence(10, "NOT_POSSIBLE if it is not planned.");
        edges.refused("a held one", Scenes::busy, h -> h.cancel(0), Checks.NOT_POSSIBLE);
        edges.refused("a cancelled one", Scenes::busy, h -> h.cancel(41), Checks.NOT_POSSIBLE);
        edges.refused("one of a settled hire", Scenes::busy, h -> h.cancel(40), Checks.NOT_POSSIBLE);
        VillageHall hall = Scenes.full();
        due("the last one of all", hall.cancel(239), 2080);
        due("again", hall.cancel(239), Checks.NOT_POSSIBLE);
        hall.undo();
        due("after undo", hall.cancel(239), 2080);
    }

    private void noSuchSession() {
        edges.sentence(10, "`session`: number of the session");
        for (int session : new int[] {-1, 3, 19, 21, 39, 42, 61, 80, 240, Integer.MIN_VALUE, Integer.MAX_VALUE}) {
            edges.refused("cancel(" + session + ")", Scenes::busy, h -> h.cancel(session), Checks.INVALID);
        }
        edges.refused("cancel(240) of 240", Scenes::full, h -> h.cancel(240), Checks.INVALID);
    }
}
