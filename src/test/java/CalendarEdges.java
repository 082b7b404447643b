import java.util.function.Supplier;

/** Sentences of the document about hours that are taken or free, and the order: promises 12 to 14. */
final class CalendarEdges {
    private final Edges edges;

    CalendarEdges(Edges edges) {
        this.edges = edges;
    }

    void run() {
        daysOfTaken();
        roomsOfTaken();
        hoursTaken();
        cancelledAreNotTaken();
        hirersOfFirstFree();
        roomsOfFirstFree();
        daysOfFirstFree();
        lengthsOfFirstFree();
        fromThePresentDay();
        atEightAtTheEarliest();
        atTwentyThreeAtTheLatest();
        gapsOfFirstFree();
        fewerThanTwelve();
        noneIsFree();
        indexesInOrder();
        theOrder();
        allInOrder();
    }

    private void due(String what, long got, long want) {
        edges.due(what, got, want);
    }

    private static VillageHall hall() {
        return Checks.hallWithHirers(2);
    }

    /** One hire of the first hirer, of the rooms 0 and 1. */
    private static VillageHall hallWith(int day, int hours, int sessions) {
        VillageHall hall = hall();
        hall.hire(0, 3, day, hours, sessions, 1);
        return hall;
    }

    private void daysOfTaken() {
        edges.sentence(12, "`day`: 0 to 364");
        due("the first day", hallWith(0, 1, 1).taken(0, 1), 1);
        due("the last day", hallWith(364, 1, 1).taken(364, 1), 1);
        due("a day that is gone", Scenes.busy().taken(0, 1), 3 << 10);
        for (int day : new int[] {-1, 365, Integer.MIN_VALUE, Integer.MAX_VALUE}) {
            edges.refused("the day " + day, Scenes::busy, h -> h.taken(day, 1), Checks.INVALID);
        }
    }

    private void roomsOfTaken() {
        edges.sentence(12, "`rooms`: 1 to 7");
        for (int rooms = 1; rooms <= 7; rooms++) {
            due("rooms " + rooms, hallWith(5, 1012, 1).taken(5, rooms), rooms == 4 ? 0 : 3 << 10);
        }
        for (int rooms : new int[] {0, 8, -1, Integer.MIN_VALUE, Integer.MAX_VALUE}) {
            edges.refused("rooms " + rooms, Scenes::busy, h -> h.taken(0, rooms), Checks.INVALID);
        }
    }

    private void hoursTaken() {
        edges.sentence(12, "Returns the hours as a bit mask");
        due("none", hall().taken(5, 7), 0);
        due("the first hour", hallWith(5, 1, 1).taken(5, 1), 1);
        due("the last hour", hallWith(5, 2324, 1).taken(5, 1), 1 << 23);
        due("all hours", hallWith(5, 24, 1).taken(5, 1), 16777215);
        due("from 10 to 12", hallWith(5, 1012, 1).taken(5, 1), 1 << 10 | 1 << 11);
        due("the day before", hallWith(5, 24, 1).taken(4, 1), 0);
        due("the last day of a series", hallWith(5, 24, 3).taken(7, 1), 16777215);
        due("the day after a series", hallWith(5, 24, 3).taken(8, 1), 0);
        VillageHall hall = hallWith(5, 1012, 1);
        hall.hire(1, 4, 5, 1113, 1, 1);
        hall.hire(1, 1, 5, 2324, 1, 1);
        due("hours of several hires, without gaps", hall.taken(5, 7), 1 << 10 | 1 << 11 | 1 << 12 | 1 << 23);
        edges.onlyTells("taken", Scenes::busy, h -> h.taken(7, 7));
    }

    private void cancelledAreNotTaken() {
        edges.sentence(12, "(sessions that are not cancelled)");
        VillageHall hall = hallWith(5, 1012, 2);
        hall.cancel(1);
        due("planned", hall.taken(5, 1), 3 << 10);
        due("cancelled", hall.taken(6, 1), 0);
        Scenes.goTo(hall, 7);
        due("held", hall.taken(5, 1), 3 << 10);
        due("cancelled and gone", hall.taken(6, 1), 0);
    }

    private void hirersOfFirstFree() {
        edges.sentence(13, "`hirer`: number of the hirer");
        for (int hirer : new int[] {-1, 2, Integer.MIN_VALUE, Integer.MAX_VALUE}) {
            edges.refused("the hirer " + hirer, Scenes::busy, h -> h.firstFree(hirer, 1, 0, 1), Checks.INVALID);
        }
        edges.refused("no hirer", VillageHall::new, h -> h.firstFree(0, 1, 0, 1), Checks.INVALID);
        due("the last hirer", Checks.hallWithHirers(10).firstFree(9, 1, 0, 1), 8);
    }

    private void roomsOfFirstFree() {
        edges.sentence(13, "`rooms`: 1 to 7");
        for (int rooms = 1; rooms <= 7; rooms++) {
            due("rooms " + rooms, hallWith(5, 24, 1).firstFree(0, rooms, 5, 1), rooms == 4 ? 508 : 608);
        }
        for (int rooms : new int[] {0, 8, -1, Integer.MIN_VALUE, Integer.MAX_VALUE}) {
            edges.refused("rooms " + rooms, Scenes::busy, h -> h.firstFree(0, rooms, 0, 1), Checks.INVALID);
        }
    }

    private void daysOfFirstFree() {
        edges.sentence(13, "`day`: 0 to 364");
        due("the first day", hall().firstFree(0, 1, 0, 1), 8);
        due("the last day", hall().firstFree(0, 1, 364, 15), 36408);
        for (int day : new int[] {-1, 365, Integer.MIN_VALUE, Integer.MAX_VALUE}) {
            edges.refused("the day " + day, Scenes::busy, h -> h.firstFree(0, 1, day, 1), Checks.INVALID);
            edges.refused("the day " + day + ", none is left", () -> Scenes.onDay(1, 400),
                    h -> h.firstFree(0, 1, day, 1), Checks.INVALID);
        }
    }

    private void lengthsOfFirstFree() {
        edges.sentence(13, "`length`: 1 to 15 hours");
        due("1 hour", hall().firstFree(0, 1, 5, 1), 508);
        due("15 hours", hall().firstFree(0, 1, 5, 15), 508);
        for (int length : new int[] {0, 16, -1, Integer.MIN_VALUE, Integer.MAX_VALUE}) {
            edges.refused(length + " hours", Scenes::busy, h -> h.firstFree(0, 1, 5, length), Checks.INVALID);
            edges.refused(length + " hours, none is left", () -> Scenes.onDay(1, 365),
                    h -> h.firstFree(0, 1, 5, length), Checks.INVALID);
        }
    }

    private void fromThePresentDay() {
        edges.sentence(13, "Returns the earliest time from a day on, and from the present day on");
        due("the day before the present one", Scenes.onDay(1, 10).firstFree(0, 1, 9, 1), 1008);
        due("the present day", Scenes.onDay(1, 10).firstFree(0, 1, 10, 1), 1008);
        due("the day after it", Scenes.onDay(1, 10).firstFree(0, 1, 11, 1), 1108);
        due("the first day, on the last one", Scenes.onDay(1, 364).firstFree(0, 1, 0, 1), 36408);
        due("the first day, a day later", Scenes.onDay(1, 365).firstFree(0, 1, 0, 1), Checks.NOT_FOUND);
        due("the last day, a day later", Scenes.onDay(1, 365).firstFree(0, 1, 364, 1), Checks.NOT_FOUND);
        due("the last day, at the end", Scenes.onDay(1, 400).firstFree(0, 1, 364, 1), Checks.NOT_FOUND);
    }

    private void atEightAtTheEarliest() {
        edges.sentence(13, "which begins at 8 at the earliest");
        due("up to 8 is hired", hallWith(5, 8, 1).firstFree(0, 1, 5, 1), 508);
        due("up to 9 is hired", hallWith(5, 9, 1).firstFree(0, 1, 5, 1), 509);
        due("from 8 to 9 is hired", hallWith(5, 809, 1).firstFree(0, 1, 5, 1), 509);
        due("from 9 on is hired", hallWith(5, 924, 1).firstFree(0, 1, 5, 1), 508);
        due("too short before it", hallWith(5, 924, 1).firstFree(0, 1, 5, 2), 608);
    }

    private void atTwentyThreeAtTheLatest() {
        edges.sentence(13, "ends at 23 at the latest");
        due("the last hour", hallWith(5, 822, 1).firstFree(0, 1, 5, 1), 522);
        due("two hours", hallWith(5, 822, 1).firstFree(0, 1, 5, 2), 608);
        due("the hour behind 23", hallWith(5, 823, 1).firstFree(0, 1, 5, 1), 608);
        due("15 hours up to 23", hallWith(5, 2324, 1).firstFree(0, 1, 5, 15), 508);
        due("15 hours with an hour less", hallWith(5, 2223, 1).firstFree(0, 1, 5, 15), 608);
        due("14 hours before it", hallWith(5, 2223, 1).firstFree(0, 1, 5, 14), 508);
        due("14 hours behind the first one", hallWith(5, 809, 1).firstFree(0, 1, 5, 14), 509);
        due("15 hours behind the first one", hallWith(5, 809, 1).firstFree(0, 1, 5, 15), 608);
    }

    private void gapsOfFirstFree() {
        edges.sentence(13, "at which a hirer could hire rooms for some hours once");
        due("another hirer, behind an hour", hallWith(5, 7, 1).firstFree(1, 1, 5, 1), 508);
        due("another hirer, not behind an hour", hallWith(5, 8, 1).firstFree(1, 1, 5, 1), 509);
        due("another hirer, before an hour", hallWith(5, 2324, 1).firstFree(1, 1, 5, 14), 508);
        due("another hirer, not before an hour", hallWith(5, 2324, 1).firstFree(1, 1, 5, 15), 608);
        due("other rooms", hallWith(5, 2324, 1).firstFree(1, 4, 5, 15), 508);
        due("the day before", hallWith(5, 24, 1).firstFree(1, 1, 4, 15), 408);
        VillageHall hall = hallWith(5, 1012, 1);
        hall.hire(0, 1, 5, 1820, 1, 1);
        hall.set(4, 3);
        due("not an hour between", hall.firstFree(1, 1, 5, 1), 608);
        hall.set(4, 2);
        due("two hours between", hall.firstFree(1, 1, 5, 2), 514);
        due("three hours are too many", hall.firstFree(1, 1, 5, 3), 608);
        hall.cancel(0);
        due("in the place of a cancelled one", hall.firstFree(1, 1, 5, 8), 508);
        due("too long for it", hall.firstFree(1, 1, 5, 9), 608);
        edges.onlyTells("firstFree", Scenes::busy, h -> h.firstFree(1, 7, 5, 15));
    }

    private void fewerThanTwelve() {
        edges.sentence(13, "(were there fewer than 12 hires)");
        due("in a full hall, behind 12", Scenes.full().firstFree(0, 1, 0, 11), 12);
        due("in a full hall, on the next day", Scenes.full().firstFree(9, 1, 19, 11), 2008);
        due("behind the gap", Scenes.full().firstFree(9, 1, 19, 10), 1913);
        due("but no hire can be made", Scenes.full().hire(9, 1, 20, 1011, 1, 1), Checks.LIMIT);
    }

    private void noneIsFree() {
        edges.sentence(13, "NOT_FOUND if there is none.");
        Supplier<VillageHall> scene = () -> hallWith(345, 922, 20);
        edges.refused("two hours", scene, h -> h.firstFree(0, 1, 345, 2), Checks.NOT_FOUND);
        due("one hour", scene.get().firstFree(0, 1, 345, 1), 34508);
        due("two hours a day earlier", scene.get().firstFree(0, 1, 344, 2), 34408);
        edges.refused("one hour for another hirer", scene, h -> h.firstFree(1, 1, 345, 1), Checks.NOT_FOUND);
        due("another room", scene.get().firstFree(1, 4, 345, 15), 34508);
        VillageHall hall = scene.get();
        hall.cancel(19);
        due("the last day is free again", hall.firstFree(1, 1, 345, 15), 36408);
    }

    private void indexesInOrder() {
        edges.sentence(14, "INVALID_ARGUMENT if index is negative; NOT_FOUND if there are not so many.");
        for (int index : new int[] {-1, -2, Integer.MIN_VALUE}) {
            edges.refused("inOrder(" + index + ")", Scenes::busy, h -> h.inOrder(index), Checks.INVALID);
            edges.refused("inOrder(" + index + ") of none", VillageHall::new, h -> h.inOrder(index), Checks.INVALID);
        }
        edges.refused("inOrder(0) of none", VillageHall::new, h -> h.inOrder(0), Checks.NOT_FOUND);
        due("the first of one", hallWith(364, 24, 1).inOrder(0), 0);
        due("the second of one", hallWith(364, 24, 1).inOrder(1), Checks.NOT_FOUND);
        due("the last of 6", Scenes.busy().inOrder(5), 2);
        edges.refused("the seventh of 6", Scenes::busy, h -> h.inOrder(6), Checks.NOT_FOUND);
        edges.refused("far too many", Scenes::busy, h -> h.inOrder(Integer.MAX_VALUE), Checks.NOT_FOUND);
        edges.onlyTells("inOrder", Scenes::busy, h -> h.inOrder(2));
    }

    private void theOrder() {
        edges.sentence(14, "in the order of days, hours from, and numbers.");
        VillageHall hall = Checks.hallWithHirers(1);
        hall.hire(0, 1, 10, 1124, 2, 5);    // 0 and 1 on 10 and 15
        hall.hire(0, 2, 10, 1112, 2, 5);    // 20 and 21: the same hour, ends earlier
        hall.hire(0, 4, 10, 1020, 1, 1);    // 40: an hour earlier
        hall.hire(0, 4, 9, 2324, 1, 1);     // 60: a day earlier
        hall.hire(0, 4, 15, 11, 1, 1);      // 80: the earliest hour of 15
        int[] want = {60, 40, 0, 20, 80, 1, 21};
        for (int index = 0; index < want.length; index++) {
            due("inOrder(" + index + ")", hall.inOrder(index), want[index]);
        }
        due("no more", hall.inOrder(want.length), Checks.NOT_FOUND);
        hall.cancel(0);
        due("without a cancelled one", hall.inOrder(2), 20);
        Scenes.goTo(hall, 20);
        due("held ones are there", hall.inOrder(0), 60);
        due("the last one then", hall.inOrder(5), 21);
        due("no more then", hall.inOrder(6), Checks.NOT_FOUND);
    }

    private void allInOrder() {
        edges.sentence(14, "`index`: 0 for the first one, and so on");
        VillageHall hall = Scenes.full();
        for (int index = 0; index < 240; index++) {
            due("inOrder(" + index + ") of 240", hall.inOrder(index), 20 * (index % 12) + index / 12);
        }
        due("inOrder(240) of 240", hall.inOrder(240), Checks.NOT_FOUND);
    }
}
