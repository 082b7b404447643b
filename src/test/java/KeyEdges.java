import java.util.function.Supplier;

/** Sentences of the document about keys: promises 18 to 20. */
final class KeyEdges {
    private final Edges edges;

    KeyEdges(Edges edges) {
        this.edges = edges;
    }

    void run() {
        keysAndHires();
        roomsOfKeys();
        aPlannedSession();
        inTheBox();
        dueDays();
        dueDaysWhenItIsLent();
        errorsInTheirOrder();
        daysLate();
        keysInTheBox();
        numbersToBringBack();
        numbersOfKeys();
        propertiesOfKeys();
        keysThatAreInTheBox();
        lentAgain();
    }

    private void due(String what, long got, long want) {
        edges.due(what, got, want);
    }

    private void keysAndHires() {
        edges.sentence(18, "`key`: 0 to 5");
        for (int key : new int[] {-1, 6, Integer.MIN_VALUE, Integer.MAX_VALUE}) {
            edges.refused("the key " + key, Scenes::busy, h -> h.lend(key, 0), Checks.INVALID);
        }
        for (int key : new int[] {0, 5}) {
            VillageHall hall = Scenes.full();
            hall.bringBack(key);
            due("the key " + key + " for the last of 12", hall.lend(key, 11), 21);
        }
        edges.sentence(18, "`hire`: number of the hire");
        for (int hire : new int[] {-1, 4, Integer.MIN_VALUE, Integer.MAX_VALUE}) {
            edges.refused("the hire " + hire, Scenes::busy, h -> h.lend(1, hire), Checks.INVALID);
        }
        edges.refused("no hire", VillageHall::new, h -> h.lend(0, 0), Checks.INVALID);
        edges.refused("the hire 12 of 12", Scenes::full, h -> h.lend(0, 12), Checks.INVALID);
    }

    private void roomsOfKeys() {
        edges.sentence(18, "each opens one room: the key k opens the room k modulo 3.");
        for (int rooms = 1; rooms <= 7; rooms++) {
            for (int key = 0; key < 6; key++) {
                VillageHall hall = Checks.hallWithHirers(1);
                hall.hire(0, rooms, 0, 1011, 1, 1);
                int want = (rooms & 1 << key % 3) != 0 ? 2 : Checks.NOT_POSSIBLE;
                due("the key " + key + " for the rooms " + rooms, hall.lend(key, 0), want);
                due("the room of the key " + key, hall.key(key, 0), key % 3);
            }
        }
        edges.refused("another room", Scenes::busy, h -> h.lend(5, 0), Checks.NOT_POSSIBLE);
    }

    private void aPlannedSession() {
        edges.sentence(18, "A key can be lent for a hire that has a planned session, today or later");
        VillageHall hall = Scenes.onDay(1, 10);
        hall.hire(0, 1, 10, 1011, 2, 5);
        hall.pass(5);
        due("one of today", hall.lend(0, 0), 17);
        hall.pass(1);
        due("the last one was yesterday", hall.lend(3, 0), Checks.NOT_POSSIBLE);
        edges.refused("all are held", Scenes::busy, h -> h.lend(1, 3), Checks.NOT_POSSIBLE);
        edges.refused("the rest is cancelled, and it is settled", Scenes::busy, h -> h.lend(3, 2),
                Checks.NOT_POSSIBLE);
        VillageHall cancelled = Checks.hallWithHirers(1);
        cancelled.hire(0, 1, 0, 1011, 2, 5);
        cancelled.cancel(0);
        due("one is cancelled", cancelled.lend(0, 0), 7);
        cancelled.cancel(1);
        due("all are cancelled", cancelled.lend(3, 0), Checks.NOT_POSSIBLE);
    }

    private void inTheBox() {
        edges.sentence(18, "NOT_POSSIBLE if it is not in the box");
        edges.refused("lent for this hire", Scenes::busy, h -> h.lend(0, 0), Checks.NOT_POSSIBLE);
        for (int key = 0; key < 6; key++) {
            int lent = key;
            edges.refused("the key " + key + " of a full hall", Scenes::full, h -> h.lend(lent, 11),
                    Checks.NOT_POSSIBLE);
        }
        VillageHall hall = Scenes.full();
        hall.bringBack(0);
        due("when it is back", hall.lend(0, 11), 21);
        due("its hire then", hall.key(0, 2), 11);
    }

    private void dueDays() {
        edges.sentence(18, "7 the days for keys (0 to 30; 2).");
        for (int days : new int[] {0, 1, 30}) {
            VillageHall hall = Checks.hallWithHirers(1);
            hall.set(7, days);
            hall.hire(0, 1, 364, 1011, 1, 1);
            hall.hire(0, 1, 0, 1011, 3, 60);
            due("the last day and " + days, hall.lend(0, 0), 364 + days);
            due("the day 120 and " + days, hall.lend(3, 1), 120 + days);
            due("it is told", hall.key(3, 3), 120 + days);
        }
    }

    private void dueDaysWhenItIsLent() {
        edges.sentence(18, "its due day is the day of the last planned session of this hire, when it is lent, plus the "
                + "days for keys.");
        VillageHall hall = Checks.hallWithHirers(1);
        hall.hire(0, 1, 0, 1011, 4, 10);
        hall.cancel(3);
        due("without the last one", hall.lend(0, 0), 22);
        hall.cancel(2);
        due("a day that was", hall.key(0, 3), 22);
        hall.cancel(0);
        due("without the last two and the first one", hall.lend(3, 0), 12);
        hall.set(7, 30);
        due("days for keys that were", hall.key(3, 3), 12);
        hall.bringBack(3);
        due("days for keys of now", hall.lend(3, 0), 40);
    }

    private void errorsInTheirOrder() {
        edges.sentence(18, "INVALID_ARGUMENT if an argument is out of range; NOT_POSSIBLE if it is not in the box, the "
                + "hire has no planned session, or its rooms are without that of the key.");
        edges.refused("a lent key and no hire", Scenes::busy, h -> h.lend(0, 4), Checks.INVALID);
        edges.refused("no key and a hire without planned sessions", Scenes::busy, h -> h.lend(6, 1), Checks.INVALID);
    }

    private void daysLate() {
        edges.sentence(19, "Returns the number of days by which it is late, 0 if it is not");
        int[][] want = {{0, 0}, {1, 0}, {2, 0}, {3, 1}, {4, 2}, {60, 58}, {400, 398}};
        for (int[] row : want) {
            VillageHall hall = Checks.hallWithHirers(1);
            hall.hire(0, 1, 0, 1011, 1, 1);
            hall.lend(0, 0);                // due on 2
            Scenes.goTo(hall, row[0]);
            due("told on " + row[0], hall.key(0, 4), row[1]);
            due("on " + row[0], hall.bringBack(0), row[1]);
        }
    }

    private void keysInTheBox() {
        edges.sentence(19, "NOT_POSSIBLE if it is in the box.");
        edges.refused("one that was not lent", Scenes::busy, h -> h.bringBack(1), Checks.NOT_POSSIBLE);
        VillageHall hall = Scenes.full();
        for (int key = 0; key < 6; key++) {
            due("the key " + key, hall.bringBack(key), 0);
            due("the key " + key + " again", hall.bringBack(key), Checks.NOT_POSSIBLE);
        }
        due("all are in the box", hall.count(4), 6);
    }

    private void numbersToBringBack() {
        edges.sentence(19, "`key`: 0 to 5");
        for (int key : new int[] {-1, 6, Integer.MIN_VALUE, Integer.MAX_VALUE}) {
            edges.refused("bringBack(" + key + ")", Scenes::full, h -> h.bringBack(key), Checks.INVALID);
        }
    }

    private void numbersOfKeys() {
        edges.sentence(20, "There are 6 keys, 0 to 5");
        for (int key : new int[] {-1, 6, Integer.MIN_VALUE, Integer.MAX_VALUE}) {
            for (int what = 0; what <= 1; what++) {
                int asked = what;
                edges.refused("key(" + key + ", " + what + ")", Scenes::busy, h -> h.key(key, asked), Checks.INVALID);
            }
        }
        due("the first one", Scenes.full().key(0, 2), 0);
        due("the last one", Scenes.full().key(5, 2), 5);
    }

    private void propertiesOfKeys() {
        edges.sentence(20, "`what`: 0: its room; 1: its holder; 2: the hire for which it is lent; 3: its due day; 4: "
                + "the days by which it is late");
        int[] want = {2, 1, 1, 2, 2};
        for (int what = 0; what <= 4; what++) {
            due("key(2, " + what + ")", Scenes.busy().key(2, what), want[what]);
        }
        for (int what : new int[] {-1, 5, Integer.MIN_VALUE, Integer.MAX_VALUE}) {
            edges.refused("key(2, " + what + ")", Scenes::busy, h -> h.key(2, what), Checks.INVALID);
            edges.refused("key(1, " + what + "), in the box", Scenes::busy, h -> h.key(1, what), Checks.INVALID);
        }
        due("not late", Scenes.busy().key(0, 4), 0);
        edges.onlyTells("key", Scenes::busy, h -> h.key(2, 4));
    }

    private void keysThatAreInTheBox() {
        edges.sentence(20, "NOT_FOUND for 1 to 4 if it is in the box.");
        due("the room of one in the box", Scenes.busy().key(1, 0), 1);
        for (int what = 1; what <= 4; what++) {
            int asked = what;
            edges.refused("key(1, " + what + ")", Scenes::busy, h -> h.key(1, asked), Checks.NOT_FOUND);
            VillageHall hall = Scenes.busy();
            hall.bringBack(2);
            due("key(2, " + what + ") when it is back", hall.key(2, what), Checks.NOT_FOUND);
        }
    }

    private void lentAgain() {
        edges.sentence(20, "A key is in the box (initially) or lent to one hirer.");
        Supplier<VillageHall> scene = () -> {
            VillageHall hall = Checks.hallWithHirers(2);
            hall.hire(0, 1, 0, 1011, 1, 1);
            hall.hire(1, 1, 9, 1011, 1, 1);
            hall.lend(0, 0);
            hall.bringBack(0);
            hall.lend(0, 1);
            return hall;
        };
        int[] want = {0, 1, 1, 11, 0};
        for (int what = 0; what <= 4; what++) {
            due("key(0, " + what + ")", scene.get().key(0, what), want[what]);
        }
        due("keys of the first holder", scene.get().hirer(0, 5), 0);
        due("keys of the second one", scene.get().hirer(1, 5), 1);
        VillageHall hall = scene.get();
        hall.undo();
        hall.undo();
        due("the first holder after undo", hall.key(0, 1), 0);
        due("the due day of then", hall.key(0, 3), 2);
    }
}
