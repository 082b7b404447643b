import java.util.function.Supplier;

/** Sentences of the document about faults and deposits: promises 21 to 23. */
final class FaultEdges {
    private final Edges edges;

    FaultEdges(Edges edges) {
        this.edges = edges;
    }

    void run() {
        sessionsAndKinds();
        heldSessions();
        costs();
        dishes();
        leftLate();
        asFarAsHeld();
        eightFaults();
        errorsInTheirOrder();
        settledHires();
        numbersOfFaults();
        propertiesOfFaults();
        notSoMany();
        settling();
        plannedSessions();
        keysThatAreOut();
        settlingAgain();
        numbersToSettle();
    }

    private void due(String what, long got, long want) {
        edges.due(what, got, want);
    }

    /** A hire of the sessions 0 and 1, which are held, and 2, which is planned for today. */
    private static VillageHall held(int rooms, int deposit) {
        VillageHall hall = Checks.hallWithHirers(2);
        hall.set(5, deposit);
        hall.hire(0, rooms, 0, 1011, 3, 1);
        hall.hire(1, rooms, 0, 1213, 1, 1);
        hall.pass(2);
        return hall;
    }

    private static VillageHall eight() {
        VillageHall hall = held(1, 5000);
        for (int fault = 0; fault < 8; fault++) {
            hall.report(fault % 2, 3);
        }
        return hall;
    }

    private void sessionsAndKinds() {
        edges.sentence(21, "`session`: number of the session");
        for (int session : new int[] {-1, 3, 19, 21, 40, 240, Integer.MIN_VALUE, Integer.MAX_VALUE}) {
            edges.refused("report(" + session + ", 0)", () -> held(2, 5000), h -> h.report(session, 0),
                    Checks.INVALID);
        }
        edges.sentence(21, "`kind`: 0 to 3");
        for (int kind : new int[] {-1, 4, Integer.MIN_VALUE, Integer.MAX_VALUE}) {
            edges.refused("report(0, " + kind + ")", () -> held(2, 5000), h -> h.report(0, kind), Checks.INVALID);
        }
        for (int kind = 0; kind <= 3; kind++) {
            VillageHall hall = held(2, 5000);
            hall.report(0, kind);
            due("the kind " + kind, hall.fault(0, 0, 0), kind);
        }
    }

    private void heldSessions() {
        edges.sentence(21, "A fault can be reported for a session that is held");
        edges.refused("one of today", () -> held(1, 5000), h -> h.report(2, 0), Checks.NOT_POSSIBLE);
        due("one of yesterday", held(1, 5000).report(1, 0), 1000);
        VillageHall hall = held(1, 5000);
        hall.pass(1);
        due("one of today, a day later", hall.report(2, 0), 1000);
        edges.refused("a cancelled one", () -> {
            VillageHall cancelled = held(1, 5000);
            cancelled.cancel(2);
            cancelled.pass(1);
            return cancelled;
        }, h -> h.report(2, 0), Checks.NOT_POSSIBLE);
    }

    private void costs() {
        edges.sentence(21, "0 not swept (1000 for each of its rooms), 1 dishes left (2500;");
        for (int rooms = 1; rooms <= 7; rooms++) {
            int[] want = {1000 * Integer.bitCount(rooms), (rooms & 2) != 0 ? 2500 : Checks.NOT_POSSIBLE, 4000, 2000};
            for (int kind = 0; kind <= 3; kind++) {
                due("the kind " + kind + " in " + rooms, held(rooms, 5000).report(0, kind), want[kind]);
            }
        }
    }

    private void dishes() {
        edges.sentence(21, "only if the room 1, the kitchen, is among its rooms)");
        for (int rooms : new int[] {1, 4, 5}) {
            edges.refused("dishes in " + rooms, () -> held(rooms, 5000), h -> h.report(0, 1), Checks.NOT_POSSIBLE);
        }
        for (int rooms : new int[] {2, 3, 6, 7}) {
            due("dishes in " + rooms, held(rooms, 5000).report(0, 1), 2500);
        }
    }

    private void leftLate() {
        edges.sentence(21, "3 left late (2000, and 500 more for each fault of this kind that was reported for "
                + "this hire before).");
        VillageHall hall = held(1, 5000);
        for (int before = 0; before < 7; before++) {
            due(before + " before", hall.report(before % 2, 3), 2000 + 500 * before);
        }
        due("another hire", hall.report(20, 3), 2000);
        due("7 before", hall.report(1, 3), 5500);
        hall = held(1, 5000);
        for (int kind = 0; kind < 3; kind += 2) {
            hall.report(0, kind);
            due("other kinds do not count", hall.report(0, 3), kind == 0 ? 2000 : 2500);
        }
        hall.undo();
        due("nor does one that was undone", hall.report(0, 3), 2500);
    }

    private void asFarAsHeld() {
        edges.sentence(21, "The cost is taken from the deposit of the hire as far as this is held; what is missing is "
                + "charged.");
        int[][] want = {{0, 0, 4000}, {1, 1, 3999}, {3999, 3999, 1}, {4000, 4000, 0}, {4001, 4000, 0},
            {50000, 4000, 0}};
        for (int[] row : want) {
            VillageHall hall = held(1, row[0]);
            int charged = hall.hirer(0, 0);
            String what = " of the deposit " + row[0];
            due("the cost" + what, hall.report(0, 2), 4000);
            due("taken" + what, hall.fault(0, 0, 3), row[1]);
            due("kept for faults" + what, hall.count(24), row[1]);
            due("held" + what, hall.hireInfo(0, 12), row[0] - row[1]);
            due("held of the other hire" + what, hall.hireInfo(1, 12), row[0]);
            due("held by the hall" + what, hall.count(23), 2 * row[0] - row[1]);
            due("charged beyond" + what, hall.count(27), row[2]);
            due("charged to the hirer" + what, hall.hirer(0, 0) - charged, row[2]);
            due("nothing is kept for keys" + what, hall.count(25), 0);
        }
    }

    private void eightFaults() {
        edges.sentence(21, "At most 8 faults are reported for a hire.");
        VillageHall hall = held(1, 5000);
        for (int fault = 0; fault < 8; fault++) {
            due("the fault " + fault, hall.report(fault % 2, 0), 1000);
            due("faults then", hall.hireInfo(0, 13), fault + 1);
        }
        due("a ninth", hall.report(0, 0), Checks.LIMIT);
        due("another hire", hall.report(20, 0), 1000);
        due("faults of the hirer", hall.hirer(0, 6), 8);
        for (int kind : new int[] {0, 2, 3}) {
            edges.refused("a ninth of the kind " + kind, FaultEdges::eight, h -> h.report(0, kind), Checks.LIMIT);
        }
        VillageHall undone = eight();
        undone.undo();
        due("the eighth after undo", undone.report(0, 2), 4000);
        due("then a ninth", undone.report(0, 2), Checks.LIMIT);
    }

    private void errorsInTheirOrder() {
        edges.sentence(21, "INVALID_ARGUMENT if an argument is out of range; NOT_POSSIBLE if the session is not held, "
                + "its hire is settled, or there can be no such fault; LIMIT_REACHED if 8 faults are reported for the "
                + "hire.");
        edges.refused("8 faults and no such kind", FaultEdges::eight, h -> h.report(0, 4), Checks.INVALID);
        edges.refused("8 faults and no such session", FaultEdges::eight, h -> h.report(3, 0), Checks.INVALID);
        edges.refused("8 faults and a planned session", FaultEdges::eight, h -> h.report(2, 0), Checks.NOT_POSSIBLE);
        edges.refused("8 faults and no kitchen", FaultEdges::eight, h -> h.report(0, 1), Checks.NOT_POSSIBLE);
        edges.refused("8 faults and settled", () -> settled(eight()), h -> h.report(0, 0), Checks.NOT_POSSIBLE);
        edges.refused("a planned session and no such kind", FaultEdges::eight, h -> h.report(2, 4), Checks.INVALID);
    }

    private static VillageHall settled(VillageHall hall) {
        hall.pass(1);
        hall.settle(0);
        return hall;
    }

    private void settledHires() {
        edges.sentence(21, "and no fault can be reported for it any more.");
        for (int kind = 0; kind <= 3; kind++) {
            int asked = kind;
            edges.refused("the kind " + kind, () -> settled(held(7, 5000)), h -> h.report(0, asked),
                    Checks.NOT_POSSIBLE);
        }
        due("for the other hire", settled(held(7, 5000)).report(20, 0), 3000);
        VillageHall hall = settled(held(7, 5000));
        hall.undo();
        due("after undo", hall.report(0, 0), 3000);
    }

    private void numbersOfFaults() {
        edges.sentence(22, "`hire`: number of the hire");
        for (int hire : new int[] {-1, 2, Integer.MIN_VALUE, Integer.MAX_VALUE}) {
            edges.refused("the hire " + hire, FaultEdges::eight, h -> h.fault(hire, 0, 0), Checks.INVALID);
        }
        edges.sentence(22, "`index`: 0 for the first one that was reported, and so on");
        for (int index : new int[] {-1, Integer.MIN_VALUE}) {
            edges.refused("the index " + index, FaultEdges::eight, h -> h.fault(0, index, 0), Checks.INVALID);
            edges.refused("the index " + index + " of none", FaultEdges::eight, h -> h.fault(1, index, 0),
                    Checks.INVALID);
        }
        for (int index = 0; index < 8; index++) {
            due("cost of the fault " + index, eight().fault(0, index, 2), 2000 + 500 * index);
            due("session of the fault " + index, eight().fault(0, index, 1), index % 2);
        }
    }

    private void propertiesOfFaults() {
        edges.sentence(22, "`what`: 0: its kind; 1: its session; 2: its cost; 3: how much of it was taken from the "
                + "deposit");
        int[][] want = {{3, 0, 2000, 2000}, {3, 1, 2500, 2500}, {3, 0, 3000, 500}, {3, 1, 3500, 0}};
        for (int index = 0; index < want.length; index++) {
            for (int what = 0; what <= 3; what++) {
                due("fault(0, " + index + ", " + what + ")", eight().fault(0, index, what), want[index][what]);
            }
        }
        for (int what : new int[] {-1, 4, Integer.MIN_VALUE, Integer.MAX_VALUE}) {
            edges.refused("fault(0, 0, " + what + ")", FaultEdges::eight, h -> h.fault(0, 0, what), Checks.INVALID);
            edges.refused("fault(0, 8, " + what + ")", FaultEdges::eight, h -> h.fault(0, 8, what), Checks.INVALID);
        }
        VillageHall hall = held(1, 5000);
        hall.pass(1);
        hall.report(20, 2);
        due("the session of the other hire", hall.fault(1, 0, 1), 20);
        edges.onlyTells("fault", FaultEdges::eight, h -> h.fault(0, 2, 3));
    }

    private void notSoMany() {
        edges.sentence(22, "NOT_FOUND if there are not so many.");
        edges.refused("the first of none", FaultEdges::eight, h -> h.fault(1, 0, 0), Checks.NOT_FOUND);
        edges.refused("the ninth of 8", FaultEdges::eight, h -> h.fault(0, 8, 0), Checks.NOT_FOUND);
        edges.refused("far too many", FaultEdges::eight, h -> h.fault(0, Integer.MAX_VALUE, 3), Checks.NOT_FOUND);
        VillageHall hall = held(1, 5000);
        due("the first before", hall.fault(0, 0, 0), Checks.NOT_FOUND);
        hall.report(0, 2);
        due("the first then", hall.fault(0, 0, 0), 2);
        due("the second then", hall.fault(0, 1, 0), Checks.NOT_FOUND);
        hall.undo();
        due("the first after undo", hall.fault(0, 0, 0), Checks.NOT_FOUND);
    }

    private void settling() {
        edges.sentence(23, "then what is still held of its deposit is given back (as paid)");
        for (int deposit : new int[] {0, 1, 50000}) {
            VillageHall hall = held(1, deposit);
            due("given back of " + deposit, hall.settle(1), deposit);
            due("paid with " + deposit, hall.hirer(1, 1), deposit);
            due("account with " + deposit, hall.count(26), deposit);
            due("held with " + deposit, hall.hireInfo(1, 12), 0);
            due("held by the hall with " + deposit, hall.count(23), deposit);
            due("settled with " + deposit, hall.hireInfo(1, 15), 1);
            due("no payment with " + deposit, hall.count(28), 0);
        }
        for (int[] row : new int[][] {{4001, 1}, {4000, 0}, {3999, 0}}) {
            VillageHall hall = held(1, row[0]);
            hall.report(20, 2);
            due("what is left of " + row[0], hall.settle(1), row[1]);
        }
    }

    private void plannedSessions() {
        edges.sentence(23, "A hire is settled by a call, if no session of it is planned and no key that was lent for "
                + "it is out");
        edges.refused("one is planned for today", () -> held(1, 5000), h -> h.settle(0), Checks.NOT_POSSIBLE);
        VillageHall hall = held(1, 5000);
        hall.cancel(2);
        due("it is cancelled", hall.settle(0), 5000);
        hall = held(1, 5000);
        hall.pass(1);
        due("it is held", hall.settle(0), 5000);
        VillageHall cancelled = Checks.hallWithHirers(1);
        cancelled.hire(0, 1, 364, 1011, 1, 1);
        due("the only one is planned", cancelled.settle(0), Checks.NOT_POSSIBLE);
        cancelled.cancel(0);
        due("the only one is cancelled", cancelled.settle(0), 5000);
    }

    private void keysThatAreOut() {
        edges.sentence(23, "NOT_POSSIBLE if it is settled, a session of it is planned, or a key is lent for it.");
        Supplier<VillageHall> scene = () -> {
            VillageHall hall = Checks.hallWithHirers(1);
            hall.hire(0, 7, 0, 1011, 1, 1);
            hall.hire(0, 7, 0, 1213, 1, 1);
            hall.lend(0, 0);
            hall.lend(5, 0);
            hall.pass(1);
            return hall;
        };
        edges.refused("two keys are out", scene, h -> h.settle(0), Checks.NOT_POSSIBLE);
        VillageHall hall = scene.get();
        due("the other hire", hall.settle(1), 5000);
        hall.bringBack(0);
        due("one is out", hall.settle(0), Checks.NOT_POSSIBLE);
        hall.bringBack(5);
        due("none is out", hall.settle(0), 5000);
    }

    private void settlingAgain() {
        edges.sentence(23, "NOT_POSSIBLE if it is settled");
        edges.refused("again", Scenes::busy, h -> h.settle(2), Checks.NOT_POSSIBLE);
        VillageHall hall = settled(held(1, 0));
        due("again, without a deposit", hall.settle(0), Checks.NOT_POSSIBLE);
        hall.undo();
        due("after undo", hall.settle(0), 0);
    }

    private void numbersToSettle() {
        edges.sentence(23, "`hire`: number of the hire");
        for (int hire : new int[] {-1, 4, Integer.MIN_VALUE, Integer.MAX_VALUE}) {
            edges.refused("settle(" + hire + ")", Scenes::busy, h -> h.settle(hire), Checks.INVALID);
        }
        edges.refused("settle(12) of 12", Scenes::full, h -> h.settle(12), Checks.INVALID);
        edges.refused("settle(0) of none", VillageHall::new, h -> h.settle(0), Checks.INVALID);
        VillageHall hall = Scenes.full();
        hall.pass(20);
        due("the last of 12", hall.settle(11), 5000);
    }
}
