import java.util.function.Supplier;

/** Sentences of the document about prices: promise 11. */
final class PriceEdges {
    private final Edges edges;

    PriceEdges(Edges edges) {
        this.edges = edges;
    }

    void run() {
        rooms();
        hours();
        sessions();
        ratesOfHours();
        evenings();
        percentsOfTheEvening();
        eveningsAreRoundedDown();
        discounts();
        discountsAreRoundedDown();
        theLeastAndTheMost();
        whetherItClashesOrNot();
        pricesOfHires();
    }

    private void due(String what, long got, long want) {
        edges.due(what, got, want);
    }

    private void rooms() {
        edges.sentence(11, "`rooms`: 1 to 7");
        int[] want = {0, 1200, 800, 2000, 600, 1800, 1400, 2600};
        for (int rooms = 1; rooms <= 7; rooms++) {
            due("rooms " + rooms, new VillageHall().price(rooms, 1011, 1), want[rooms]);
        }
        for (int rooms : new int[] {0, 8, -1, Integer.MIN_VALUE, Integer.MAX_VALUE}) {
            edges.refused("rooms " + rooms, Scenes::busy, h -> h.price(rooms, 1011, 1), Checks.INVALID);
        }
    }

    private void hours() {
        edges.sentence(11, "`hours`: as for hire");
        int[][] good = {{1, 600}, {24, 15300}, {102, 600}, {2223, 750}, {2324, 750}};
        for (int[] row : good) {
            due("hours " + row[0], new VillageHall().price(4, row[0], 1), row[1]);
        }
        int[] wrong = {0, 25, 99, 100, 101, 1211, 1212, 1225, 2323, 2325, 2400, 2424, 2425, 10001, -1, -76, -99,
            Integer.MIN_VALUE, Integer.MAX_VALUE};
        for (int hours : wrong) {
            edges.refused("hours " + hours, Scenes::busy, h -> h.price(4, hours, 1), Checks.INVALID);
        }
    }

    private void sessions() {
        edges.sentence(11, "`sessions`: 1 to 20");
        due("1 session", new VillageHall().price(4, 1011, 1), 600);
        due("2 sessions", new VillageHall().price(4, 1011, 2), 1200);
        due("20 sessions", new VillageHall().price(4, 1011, 20), 9600);
        for (int sessions : new int[] {0, 21, -1, Integer.MIN_VALUE, Integer.MAX_VALUE}) {
            edges.refused(sessions + " sessions", Scenes::busy, h -> h.price(4, 1011, sessions), Checks.INVALID);
        }
    }

    private void ratesOfHours() {
        edges.sentence(11, "The price of a session is, for each of its rooms, the rate for each of its hours");
        VillageHall hall = new VillageHall();
        hall.set(0, 1);
        hall.set(1, 100);
        hall.set(2, 5000);
        due("the first room", hall.price(1, 17, 1), 17);
        due("the kitchen", hall.price(2, 17, 1), 1700);
        due("the third room", hall.price(4, 17, 1), 85000);
        due("all rooms", hall.price(7, 17, 1), 86717);
        due("an hour", hall.price(7, 1617, 1), 5101);
    }

    private void evenings() {
        edges.sentence(11, "for hours from 18 on evening percent of the rate more");
        int[][] want = {{1617, 1200}, {1718, 1200}, {1819, 1500}, {1719, 2700}, {1720, 4200}, {1824, 9000},
            {2324, 1500}, {24, 30600}, {18, 21600}, {19, 23100}};
        for (int[] row : want) {
            due("hours " + row[0], new VillageHall().price(1, row[0], 1), row[1]);
        }
    }

    private void percentsOfTheEvening() {
        edges.sentence(11, "3 the evening in percent (0 to 100; 25)");
        int[][] want = {{0, 1200}, {1, 1212}, {99, 2388}, {100, 2400}};
        for (int[] row : want) {
            VillageHall hall = new VillageHall();
            hall.set(3, row[0]);
            due(row[0] + " percent", hall.price(1, 1819, 1), row[1]);
            due(row[0] + " percent, before the evening", hall.price(1, 1718, 1), 1200);
        }
    }

    private void eveningsAreRoundedDown() {
        edges.sentence(11, "(rate * percent / 100 for each such hour)");
        VillageHall hall = new VillageHall();
        hall.set(0, 3);
        hall.set(1, 199);
        hall.set(2, 4);
        due("nothing of 0.75", hall.price(1, 1824, 1), 18);
        due("49 of 49.75 for each hour", hall.price(2, 1822, 1), 4 * 248);
        due("1 of 1", hall.price(4, 1820, 1), 10);
        hall.set(2, 3);
        due("for each room", hall.price(5, 1819, 1), 6);
        due("for each session", hall.price(1, 1819, 3), 9);
        hall.set(3, 33);
        hall.set(2, 4);
        due("1 of 1.32", hall.price(4, 1822, 1), 20);
    }

    private void discounts() {
        edges.sentence(11, "0 percent for fewer than 4, 10 for fewer than 10, otherwise 20.");
        int[] percent = {0, 0, 0, 0, 10, 10, 10, 10, 10, 10, 20, 20, 20, 20, 20, 20, 20, 20, 20, 20, 20};
        for (int sessions = 1; sessions <= 20; sessions++) {
            int want = 6 * sessions * (100 - percent[sessions]);
            due(sessions + " sessions", new VillageHall().price(4, 1011, sessions), want);
            VillageHall hall = Checks.hallWithHirers(1);
            hall.hire(0, 4, 0, 1011, sessions, 1);
            due("discount of " + sessions, hall.hireInfo(0, 8), percent[sessions]);
            due("price of the hire of " + sessions, hall.hireInfo(0, 7), want);
            hall.cancel(0);
            due("discount of " + sessions + " and one cancelled", hall.hireInfo(0, 8), percent[sessions]);
        }
    }

    private void discountsAreRoundedDown() {
        edges.sentence(11, "The price of a hire is the sum of those of its sessions, less sum * discount / 100.");
        int[][] want = {{1, 3, 3}, {1, 4, 4}, {2, 4, 8}, {3, 4, 11}, {5, 4, 18}, {1, 9, 9}, {11, 9, 90}, {1, 10, 8},
            {1, 14, 12}, {1, 15, 12}, {1, 19, 16}, {1, 20, 16}};
        for (int[] row : want) {
            VillageHall hall = new VillageHall();
            hall.set(2, row[0]);
            due(row[1] + " at " + row[0], hall.price(4, 1011, row[1]), row[2]);
        }
    }

    private void theLeastAndTheMost() {
        edges.sentence(11, "0 to 2 the rates of the rooms for an hour (0 to 5000; 1200, 800, 600)");
        VillageHall hall = new VillageHall();
        for (int room = 0; room < 3; room++) {
            hall.set(room, 5000);
        }
        hall.set(3, 100);
        due("the dearest session", hall.price(7, 24, 1), 450000);
        due("the dearest hire", hall.price(7, 24, 20), 7200000);
        for (int room = 0; room < 3; room++) {
            hall.set(room, 0);
        }
        due("the cheapest hire", hall.price(7, 24, 20), 0);
    }

    private void whetherItClashesOrNot() {
        edges.sentence(11, "Returns what a hire would cost, whether it clashes or not.");
        due("in a full hall", Scenes.full().price(7, 1, 20), 41600);
        due("after the last day", Scenes.onDay(1, 400).price(7, 1, 20), 41600);
        due("without hirers", new VillageHall().price(7, 1, 20), 41600);
        edges.onlyTells("price", Scenes::busy, h -> h.price(3, 1012, 3));
        edges.onlyTells("price in a full hall", Scenes::full, h -> h.price(7, 24, 20));
    }

    private void pricesOfHires() {
        edges.sentence(11, "Prices are those of the rates when the hire is made.");
        Supplier<VillageHall> scene = () -> {
            VillageHall hall = Checks.hallWithHirers(1);
            hall.hire(0, 1, 0, 1011, 1, 1);
            hall.set(0, 5000);
            return hall;
        };
        due("what it would cost now", scene.get().price(1, 1011, 1), 5000);
        due("what it cost", scene.get().hireInfo(0, 7), 1200);
        due("prices charged", scene.get().count(20), 1200);
    }
}
