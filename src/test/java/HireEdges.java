import java.util.function.Supplier;

/** Sentences of the document about hire, and about what is told of a hire: promises 6 and 8. */
final class HireEdges {
    private final Edges edges;

    HireEdges(Edges edges) {
        this.edges = edges;
    }

    void run() {
        numbersInOrder();
        hirers();
        rooms();
        days();
        hoursThatAre();
        hoursThatAreNot();
        sessions();
        intervals();
        daysOfASeries();
        theLastSession();
        clashesAreNotLookedForThen();
        twelveHires();
        errorsInTheirOrder();
        deposits();
        pricesAreOfThen();
        numbersOfHires();
        numbersOfProperties();
        sessionsOfAHire();
        heldOfTheDeposit();
        faultsAndKeysOfAHire();
        settled();
    }

    private void due(String what, long got, long want) {
        edges.due(what, got, want);
    }

    private static VillageHall oneHirer() {
        return Checks.hallWithHirers(1);
    }

    private static VillageHall twelve() {
        VillageHall hall = oneHirer();
        for (int made = 0; made < 12; made++) {
            hall.hire(0, 1, made, 1012, 1, 1);
        }
        return hall;
    }

    private void numbersInOrder() {
        edges.sentence(6, "Hires are numbered from 0 in the order in which they were made; there are at most 12 of "
                + "them.");
        VillageHall hall = oneHirer();
        for (int made = 0; made < 12; made++) {
            due("hires before", hall.count(2), made);
            due("the number", hall.hire(0, 1, 11 - made, 1012, 1, 1), made);
            due("the day", hall.hireInfo(made, 5), 11 - made);
        }
        due("hires at last", hall.count(2), 12);
    }

    private void hirers() {
        edges.sentence(6, "`hirer`: number of the hirer");
        for (int hirers : new int[] {0, 1, 10}) {
            Supplier<VillageHall> scene = () -> Checks.hallWithHirers(hirers);
            for (int hirer : new int[] {-1, hirers, Integer.MIN_VALUE, Integer.MAX_VALUE}) {
                edges.refused("the hirer " + hirer + " of " + hirers, scene, h -> h.hire(hirer, 1, 0, 1011, 1, 1),
                        Checks.INVALID);
            }
        }
        due("the first", Checks.hallWithHirers(10).hire(0, 1, 0, 1011, 1, 1), 0);
        due("the last", Checks.hallWithHirers(10).hire(9, 1, 0, 1011, 1, 1), 0);
    }

    private void rooms() {
        edges.sentence(6, "`rooms`: 1 to 7");
        for (int rooms = 1; rooms <= 7; rooms++) {
            due("rooms " + rooms, oneHirer().hire(0, rooms, 0, 1011, 1, 1), 0);
        }
        for (int rooms : new int[] {0, 8, -1, 9, Integer.MIN_VALUE, Integer.MAX_VALUE}) {
            edges.refused("rooms " + rooms, HireEdges::oneHirer, h -> h.hire(0, rooms, 0, 1011, 1, 1), Checks.INVALID);
        }
    }

    private void days() {
        edges.sentence(6, "`day`: the present day to 364: that of the first session");
        for (int present : new int[] {0, 10, 364, 365, 400}) {
            Supplier<VillageHall> scene = () -> Scenes.onDay(1, present);
            for (int day : new int[] {present - 1, 365, 366, Integer.MIN_VALUE, Integer.MAX_VALUE}) {
                edges.refused("the day " + day + " on " + present, scene, h -> h.hire(0, 1, day, 1011, 1, 1),
                        Checks.INVALID);
            }
            int want = present <= 364 ? 0 : Checks.INVALID;
            due("the present day " + present, scene.get().hire(0, 1, present, 1011, 1, 1), want);
            due("the day 364 on " + present, scene.get().hire(0, 1, 364, 1011, 1, 1), want);
        }
    }

    private void hoursThatAre() {
        edges.sentence(6, "A hire has a hirer, a set of rooms, hours from a to b (a less than b, at most 24)");
        int[][] good = {{1, 0, 1}, {24, 0, 24}, {102, 1, 2}, {124, 1, 24}, {1718, 17, 18}, {2223, 22, 23},
            {2224, 22, 24}, {2324, 23, 24}};
        for (int[] row : good) {
            VillageHall hall = oneHirer();
            due("hours " + row[0], hall.hire(0, 1, 0, row[0], 1, 1), 0);
            due("from which", hall.hireInfo(0, 2), row[1]);
            due("up to which", hall.hireInfo(0, 3), row[2]);
        }
    }

    private void hoursThatAreNot() {
        edges.sentence(6, "`hours`: 100 * (the hour from which, 0 to 23) + (the hour up to which, greater than that, "
                + "at most 24)");
        int[] wrong = {0, 25, 99, 100, 101, 125, 1211, 1212, 1225, 2300, 2322, 2323, 2325, 2399, 2400, 2401, 2424, 2425,
            2426, 9999, 10001, -1, -76, -99, -100, -2324, Integer.MIN_VALUE, Integer.MAX_VALUE};
        for (int hours : wrong) {
            edges.refused("hours " + hours, HireEdges::oneHirer, h -> h.hire(0, 1, 0, hours, 1, 1), Checks.INVALID);
        }
    }

    private void sessions() {
        edges.sentence(6, "`sessions`: 1 to 20");
        for (int sessions : new int[] {1, 2, 19, 20}) {
            VillageHall hall = oneHirer();
            due(sessions + " sessions", hall.hire(0, 1, 0, 1011, sessions, 1), 0);
            due("they are there", hall.count(3), sessions);
        }
        for (int sessions : new int[] {0, -1, 21, 32, 33, Integer.MIN_VALUE, Integer.MAX_VALUE}) {
            edges.refused(sessions + " sessions", HireEdges::oneHirer, h -> h.hire(0, 1, 0, 1011, sessions, 1),
                    Checks.INVALID);
        }
    }

    private void intervals() {
        edges.sentence(6, "`interval`: 1 to 60 days (also for one session)");
        for (int sessions : new int[] {1, 2}) {
            for (int interval : new int[] {1, 60}) {
                VillageHall hall = oneHirer();
                due(sessions + " with the interval " + interval, hall.hire(0, 1, 3, 1011, sessions, interval), 0);
                due("the day of the last one", hall.session(sessions - 1, 0), 3 + (sessions - 1) * interval);
                due("the interval", hall.hireInfo(0, 6), interval);
            }
            for (int interval : new int[] {0, 61, -1, Integer.MIN_VALUE, Integer.MAX_VALUE}) {
                edges.refused(sessions + " with the interval " + interval, HireEdges::oneHirer,
                        h -> h.hire(0, 1, 3, 1011, sessions, interval), Checks.INVALID);
            }
        }
    }

    private void daysOfASeries() {
        edges.sentence(6, "the first one on a day, each next one as many days later as the interval (1 to 60)");
        for (int interval : new int[] {1, 7, 18}) {
            VillageHall hall = oneHirer();
            hall.hire(0, 1, 3, 1011, 20, interval);
            for (int index = 0; index < 20; index++) {
                due("the day of " + index + " by " + interval, hall.session(index, 0), 3 + index * interval);
            }
        }
    }

    private void theLastSession() {
        edges.sentence(6, "NOT_POSSIBLE if the last session would be after the day 364");
        int[][] lastOn364 = {{364, 1, 60}, {363, 2, 1}, {304, 2, 60}, {4, 7, 60}, {345, 20, 1}, {3, 20, 19}};
        for (int[] row : lastOn364) {
            VillageHall hall = oneHirer();
            due("from " + row[0], hall.hire(0, 1, row[0], 1011, row[1], row[2]), 0);
            due("the last day", hall.session(row[1] - 1, 0), 364);
            if (row[1] > 1) {
                edges.refused("from the day after " + row[0], HireEdges::oneHirer,
                        h -> h.hire(0, 1, row[0] + 1, 1011, row[1], row[2]), Checks.NOT_POSSIBLE);
            }
        }
        edges.refused("the longest one", HireEdges::oneHirer, h -> h.hire(0, 1, 364, 1011, 20, 60),
                Checks.NOT_POSSIBLE);
    }

    private void clashesAreNotLookedForThen() {
        edges.sentence(6, "(clashes are not looked for then)");
        Supplier<VillageHall> scene = () -> {
            VillageHall hall = oneHirer();
            hall.hire(0, 1, 364, 1012, 1, 1);
            hall.hire(0, 1, 20, 1012, 1, 1);
            return hall;
        };
        edges.refused("none was told", scene, h -> h.hire(0, 1, 364, 1012, 2, 1), Checks.NOT_POSSIBLE);
        Supplier<VillageHall> told = () -> {
            VillageHall hall = scene.get();
            hall.hire(0, 1, 20, 1112, 1, 1);
            return hall;
        };
        edges.refused("one was told", told, h -> h.hire(0, 1, 364, 1012, 2, 1), Checks.NOT_POSSIBLE, 20);
        edges.refused("a series that ends on 364", scene, h -> h.hire(0, 1, 362, 1112, 3, 1), Checks.NOT_POSSIBLE, 0);
    }

    private void twelveHires() {
        edges.sentence(6, "LIMIT_REACHED if there are 12 hires.");
        VillageHall hall = twelve();
        due("twelve", hall.count(2), 12);
        edges.refused("a thirteenth", HireEdges::twelve, h -> h.hire(0, 1, 100, 1011, 1, 1), Checks.LIMIT);
        edges.refused("a thirteenth of a full hall", Scenes::full, h -> h.hire(9, 7, 364, 24, 1, 1), Checks.LIMIT);
        hall.undo();
        due("eleven after undo", hall.count(2), 11);
        due("the twelfth again", hall.hire(0, 2, 11, 1012, 1, 1), 11);
        due("its rooms", hall.hireInfo(11, 1), 2);
        due("then a thirteenth", hall.hire(0, 1, 100, 1011, 1, 1), Checks.LIMIT);
        hall = twelve();
        Scenes.goTo(hall, 12);
        hall.settle(0);
        due("a settled hire counts", hall.hire(0, 1, 100, 1011, 1, 1), Checks.LIMIT);
    }

    private void errorsInTheirOrder() {
        edges.sentence(6, "If several errors apply to a call, INVALID_ARGUMENT is returned rather than NOT_POSSIBLE, "
                + "NOT_POSSIBLE rather than LIMIT_REACHED");
        edges.refused("all three: the interval", HireEdges::twelve, h -> h.hire(0, 1, 364, 1112, 20, 61),
                Checks.INVALID);
        int most = Integer.MAX_VALUE;
        int least = Integer.MIN_VALUE;
        edges.refused("all too large", HireEdges::twelve, h -> h.hire(most, most, most, most, most, most),
                Checks.INVALID);
        edges.refused("all too small", HireEdges::twelve, h -> h.hire(least, least, least, least, least, least),
                Checks.INVALID);
        edges.refused("a last day that wraps around", HireEdges::twelve, h -> h.hire(0, 1, 364, 1112, most, most),
                Checks.INVALID);
        edges.refused("an interval that wraps around", HireEdges::twelve, h -> h.hire(0, 1, 364, 1112, 20, least),
                Checks.INVALID);
        edges.refused("a clash and the hirer", HireEdges::twelve, h -> h.hire(1, 1, 5, 1112, 1, 1), Checks.INVALID);
        edges.refused("a clash and the rooms", HireEdges::twelve, h -> h.hire(0, 9, 5, 1112, 1, 1), Checks.INVALID);
        edges.refused("a clash and the hours", HireEdges::twelve, h -> h.hire(0, 1, 5, 1125, 1, 1), Checks.INVALID);
        edges.refused("the limit and the day", HireEdges::twelve, h -> h.hire(0, 1, 365, 1112, 1, 1), Checks.INVALID);
        edges.refused("the limit and the sessions", HireEdges::twelve, h -> h.hire(0, 1, 364, 1112, 21, 1),
                Checks.INVALID);
        edges.refused("the limit and too late", HireEdges::twelve, h -> h.hire(0, 1, 364, 1112, 2, 1),
                Checks.NOT_POSSIBLE);
        edges.refused("the limit and a clash", HireEdges::twelve, h -> h.hire(0, 1, 11, 1113, 1, 1),
                Checks.NOT_POSSIBLE, 220);
    }

    private void deposits() {
        edges.sentence(6, "When a hire is made, its hirer is charged its price and its deposit, which is held.");
        for (int deposit : new int[] {0, 1, 50000}) {
            VillageHall hall = Checks.hallWithHirers(2);
            hall.set(5, deposit);
            hall.hire(1, 4, 0, 1011, 1, 1);
            due("charged with " + deposit, hall.hirer(1, 0), 600 + deposit);
            due("paid with " + deposit, hall.hirer(1, 1), 0);
            due("prices with " + deposit, hall.count(20), 600);
            due("taken with " + deposit, hall.count(22), deposit);
            due("held with " + deposit, hall.count(23), deposit);
            due("held of the hire with " + deposit, hall.hireInfo(0, 12), deposit);
            due("the other hirer with " + deposit, hall.hirer(0, 0), 0);
            hall.set(5, 7);
            due("the setting of later with " + deposit, hall.hireInfo(0, 12), deposit);
        }
    }

    private void pricesAreOfThen() {
        edges.sentence(6, "Prices are those of the rates when the hire is made.");
        VillageHall hall = oneHirer();
        hall.set(0, 5000);
        hall.hire(0, 1, 20, 1719, 4, 1);    // 4 * 11250, less 10 percent
        hall.set(0, 0);
        hall.set(3, 0);
        due("price", hall.hireInfo(0, 7), 40500);
        due("share", hall.session(0, 2), 10125);
        due("refund", hall.cancel(0), 10125);
        due("charged", hall.hirer(0, 0), 45500);
        due("what it would be now", hall.price(1, 1719, 4), 0);
    }

    private void numbersOfHires() {
        edges.sentence(8, "`hire`: number of the hire");
        edges.refused("none", VillageHall::new, h -> h.hireInfo(0, 0), Checks.INVALID);
        for (int hire : new int[] {-1, 12, 13, Integer.MIN_VALUE, Integer.MAX_VALUE}) {
            edges.refused("the hire " + hire + " of 12", HireEdges::twelve, h -> h.hireInfo(hire, 5), Checks.INVALID);
            edges.refused("keys of " + hire + " of 12", HireEdges::twelve, h -> h.hireInfo(hire, 14), Checks.INVALID);
        }
        due("the first of 12", twelve().hireInfo(0, 5), 0);
        due("the last of 12", twelve().hireInfo(11, 5), 11);
        VillageHall hall = twelve();
        hall.undo();
        due("one that was undone", hall.hireInfo(11, 5), Checks.INVALID);
        due("the one before it", hall.hireInfo(10, 5), 10);
    }

    private void numbersOfProperties() {
        edges.sentence(8, "`what`: 0: its hirer; 1: its rooms; 2: the hour from which; 3: the hour up to which; "
                + "4: its sessions; 5: the day of the first one; 6: the interval; 7: its price; 8: its discount in "
                + "percent; 9: planned sessions; 10: held ones; 11: cancelled ones; 12: what is held of its deposit; "
                + "13: faults; 14: keys that are lent for it; 15: 1 if it is settled, otherwise 0");
        int[] want = {0, 3, 10, 12, 3, 0, 7, 12000, 0, 2, 1, 0, 1000, 1, 1, 0};
        for (int what = 0; what <= 15; what++) {
            due("hireInfo(0, " + what + ")", Scenes.busy().hireInfo(0, what), want[what]);
        }
        for (int what : new int[] {-1, 16, Integer.MIN_VALUE, Integer.MAX_VALUE}) {
            edges.refused("hireInfo(0, " + what + ")", Scenes::busy, h -> h.hireInfo(0, what), Checks.INVALID);
        }
        edges.onlyTells("hireInfo", Scenes::busy, h -> h.hireInfo(0, 7));
    }

    private void sessionsOfAHire() {
        edges.sentence(8, "Each session is planned at first, then it is held or cancelled.");
        VillageHall hall = oneHirer();
        hall.hire(0, 1, 0, 1011, 20, 1);
        due("all are planned", hall.hireInfo(0, 9), 20);
        hall.cancel(19);
        due("one is cancelled", hall.hireInfo(0, 11), 1);
        due("the rest is planned", hall.hireInfo(0, 9), 19);
        hall.pass(19);
        due("the rest is held", hall.hireInfo(0, 10), 19);
        due("none is planned", hall.hireInfo(0, 9), 0);
        hall.pass(1);
        due("the cancelled one is not held", hall.hireInfo(0, 10), 19);
        due("it stays cancelled", hall.hireInfo(0, 11), 1);
        due("all are sessions", hall.hireInfo(0, 4), 20);
    }

    private void heldOfTheDeposit() {
        edges.sentence(8, "12: what is held of its deposit");
        VillageHall hall = oneHirer();
        hall.set(5, 4001);
        hall.hire(0, 1, 0, 1011, 1, 1);
        due("all", hall.hireInfo(0, 12), 4001);
        hall.pass(1);
        hall.report(0, 2);
        due("one", hall.hireInfo(0, 12), 1);
        hall.report(0, 2);
        due("none", hall.hireInfo(0, 12), 0);
    }

    private void faultsAndKeysOfAHire() {
        edges.sentence(8, "13: faults; 14: keys that are lent for it");
        VillageHall hall = Scenes.onDay(2, 0);
        hall.hire(0, 7, 0, 1011, 2, 1);
        hall.hire(1, 7, 0, 1213, 1, 1);
        due("no key", hall.hireInfo(0, 14), 0);
        for (int key = 0; key < 6; key++) {
            hall.lend(key, 0);
            due("keys with the key " + key, hall.hireInfo(0, 14), key + 1);
        }
        hall.pass(1);
        due("no fault", hall.hireInfo(0, 13), 0);
        for (int fault = 1; fault <= 8; fault++) {
            hall.report(0, 2);
            due("faults with the fault " + fault, hall.hireInfo(0, 13), fault);
        }
        hall.report(0, 2);
        due("no more than 8 faults", hall.hireInfo(0, 13), 8);
        due("no key of the other hire", hall.hireInfo(1, 14), 0);
        due("no fault of the other hire", hall.hireInfo(1, 13), 0);
    }

    private void settled() {
        edges.sentence(8, "15: 1 if it is settled, otherwise 0");
        VillageHall hall = oneHirer();
        hall.hire(0, 1, 0, 1011, 1, 1);
        hall.hire(0, 2, 0, 1011, 1, 1);
        hall.pass(1);
        due("before", hall.hireInfo(0, 15), 0);
        hall.settle(0);
        due("then", hall.hireInfo(0, 15), 1);
        due("the other one", hall.hireInfo(1, 15), 0);
    }
}
