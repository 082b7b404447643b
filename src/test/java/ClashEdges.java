import java.util.function.Supplier;

/** Sentences of the document about hires that clash, and what clash tells: promises 6 and 7. */
final class ClashEdges {
    private final Edges edges;

    ClashEdges(Edges edges) {
        this.edges = edges;
    }

    void run() {
        theSameDay();
        aRoomInCommon();
        hoursThatOverlap();
        gaps();
        gapsOfTheSameHirer();
        gapsAndDays();
        theGapOfNow();
        sessionsThatAreCancelled();
        differentHires();
        anySession();
        noSuchCall();
        theFirstSessionThatClashes();
        byHoursThenByNumbers();
        theLatestCall();
        clashStays();
    }

    private void due(String what, long got, long want) {
        edges.due(what, got, want);
    }

    /** A hire of the room 0 by the hirer 0 on the day 10 from 10 to 14. */
    private static VillageHall tenToFourteen(int gap) {
        VillageHall hall = Checks.hallWithHirers(2);
        hall.set(4, gap);
        hall.hire(0, 1, 10, 1014, 1, 1);
        return hall;
    }

    private void clashes(String what, Supplier<VillageHall> scene, int hirer, int day, int hours) {
        edges.refused(what, scene, h -> h.hire(hirer, 1, day, hours, 1, 1), Checks.NOT_POSSIBLE, 0);
    }

    private void isFree(String what, Supplier<VillageHall> scene, int hirer, int day, int hours) {
        due(what, scene.get().hire(hirer, 1, day, hours, 1, 1), 1);
    }

    private void theSameDay() {
        edges.sentence(6, "if they are on the same day");
        Supplier<VillageHall> scene = () -> tenToFourteen(3);
        isFree("the day before", scene, 1, 9, 24);
        clashes("the day", scene, 1, 10, 24);
        isFree("the day after", scene, 1, 11, 24);
    }

    private void aRoomInCommon() {
        edges.sentence(6, "have a room in common");
        for (int old = 1; old <= 7; old++) {
            for (int rooms = 1; rooms <= 7; rooms++) {
                VillageHall hall = Checks.hallWithHirers(1);
                hall.hire(0, old, 10, 1014, 1, 1);
                int want = (old & rooms) == 0 ? 1 : Checks.NOT_POSSIBLE;
                due("rooms " + rooms + " and " + old, hall.hire(0, rooms, 10, 1014, 1, 1), want);
            }
        }
    }

    private void hoursThatOverlap() {
        edges.sentence(6, "their hours overlap");
        for (int hirer = 0; hirer <= 1; hirer++) {
            Supplier<VillageHall> scene = () -> tenToFourteen(0);
            isFree("up to the hour from which, by " + hirer, scene, hirer, 10, 10);
            clashes("the first hour, by " + hirer, scene, hirer, 10, 11);
            clashes("only the first hour, by " + hirer, scene, hirer, 10, 1011);
            clashes("within, by " + hirer, scene, hirer, 10, 1113);
            clashes("the same, by " + hirer, scene, hirer, 10, 1014);
            clashes("around, by " + hirer, scene, hirer, 10, 915);
            clashes("all the day, by " + hirer, scene, hirer, 10, 24);
            clashes("only the last hour, by " + hirer, scene, hirer, 10, 1314);
            clashes("the last hour, by " + hirer, scene, hirer, 10, 1324);
            isFree("from the hour up to which, by " + hirer, scene, hirer, 10, 1424);
        }
    }

    private void gaps() {
        edges.sentence(6, "if their hirers are different, one begins less than the gap after the other one ends");
        for (int gap = 0; gap <= 3; gap++) {
            int set = gap;
            Supplier<VillageHall> scene = () -> tenToFourteen(set);
            isFree("the gap " + gap + " before", scene, 1, 10, 10 - gap);
            clashes("less than the gap " + gap + " before", scene, 1, 10, 11 - gap);
            clashes("less than the gap " + gap + " after", scene, 1, 10, 100 * (13 + gap) + 24);
            isFree("the gap " + gap + " after", scene, 1, 10, 100 * (14 + gap) + 24);
        }
    }

    private void gapsOfTheSameHirer() {
        edges.sentence(6, "if their hirers are different");
        Supplier<VillageHall> scene = () -> tenToFourteen(3);
        isFree("right before, the same hirer", scene, 0, 10, 10);
        isFree("right after, the same hirer", scene, 0, 10, 1424);
        clashes("two hours before, another hirer", scene, 1, 10, 8);
        clashes("two hours after, another hirer", scene, 1, 10, 1624);
        Supplier<VillageHall> rooms = () -> tenToFourteen(3);
        due("right after, another hirer and other rooms", rooms.get().hire(1, 6, 10, 1415, 1, 1), 1);
    }

    private void gapsAndDays() {
        edges.sentence(6, "if they are on the same day, have a room in common, and their hours overlap, or, if their "
                + "hirers are different");
        Supplier<VillageHall> late = () -> {
            VillageHall hall = Checks.hallWithHirers(2);
            hall.set(4, 3);
            hall.hire(0, 1, 10, 2324, 1, 1);
            hall.hire(0, 1, 20, 1, 1, 1);
            return hall;
        };
        due("the first hour of the next day", late.get().hire(1, 1, 11, 1, 1, 1), 2);
        due("the last hour of the day before", late.get().hire(1, 1, 19, 2324, 1, 1), 2);
        due("the gap before the last hour", late.get().hire(1, 1, 10, 20, 1, 1), 2);
        edges.refused("less than it", late, h -> h.hire(1, 1, 10, 21, 1, 1), Checks.NOT_POSSIBLE, 0);
        due("the gap after the first hour", late.get().hire(1, 1, 20, 424, 1, 1), 2);
        edges.refused("less than that", late, h -> h.hire(1, 1, 20, 324, 1, 1), Checks.NOT_POSSIBLE, 20);
    }

    private void theGapOfNow() {
        edges.sentence(6, "4 the gap in hours (0 to 3; 1)");
        Supplier<VillageHall> first = () -> {
            VillageHall hall = Checks.hallWithHirers(2);
            hall.hire(0, 1, 10, 1014, 1, 1);
            return hall;
        };
        clashes("no hour between, at first", first, 1, 10, 1415);
        isFree("an hour between, at first", first, 1, 10, 1516);
        VillageHall hall = first.get();
        hall.set(4, 0);
        due("no hour between, with the gap of now", hall.hire(1, 1, 10, 1415, 1, 1), 1);
        hall.set(4, 3);
        due("with a greater one", hall.hire(1, 1, 10, 608, 1, 1), Checks.NOT_POSSIBLE);
        hall.undo();
        due("after undo", hall.hire(1, 1, 10, 608, 1, 1), 2);
    }

    private void sessionsThatAreCancelled() {
        edges.sentence(6, "Two sessions that are not cancelled");
        Supplier<VillageHall> scene = () -> {
            VillageHall hall = Checks.hallWithHirers(2);
            hall.hire(0, 1, 10, 1014, 3, 1);
            hall.cancel(1);
            return hall;
        };
        edges.refused("before the cancelled one", scene, h -> h.hire(1, 1, 10, 1014, 1, 1), Checks.NOT_POSSIBLE, 0);
        due("in its place", scene.get().hire(1, 1, 11, 1014, 1, 1), 1);
        edges.refused("after it", scene, h -> h.hire(1, 1, 12, 1014, 1, 1), Checks.NOT_POSSIBLE, 2);
    }

    private void differentHires() {
        edges.sentence(6, "of different hires");
        VillageHall hall = Checks.hallWithHirers(1);
        due("a series of whole days", hall.hire(0, 7, 0, 24, 20, 1), 0);
        due("its sessions", hall.count(3), 20);
    }

    private void anySession() {
        edges.sentence(6, "A hire can be made if no session of it clashes with a session that there is");
        Supplier<VillageHall> one = () -> {
            VillageHall hall = Checks.hallWithHirers(1);
            hall.hire(0, 1, 29, 1012, 1, 1);
            return hall;
        };
        due("up to the day before", one.get().hire(0, 1, 9, 1112, 20, 1), 1);
        edges.refused("its last one", one, h -> h.hire(0, 1, 10, 1112, 20, 1), Checks.NOT_POSSIBLE, 0);
        edges.refused("its first one", one, h -> h.hire(0, 1, 29, 1112, 20, 1), Checks.NOT_POSSIBLE, 0);
        due("from the day after", one.get().hire(0, 1, 30, 1112, 20, 1), 1);
        Supplier<VillageHall> series = () -> {
            VillageHall hall = Checks.hallWithHirers(1);
            hall.hire(0, 1, 5, 1012, 20, 3);    // on 5, 8, .. 62
            return hall;
        };
        edges.refused("the first one", series, h -> h.hire(0, 1, 5, 1112, 1, 1), Checks.NOT_POSSIBLE, 0);
        edges.refused("the last one", series, h -> h.hire(0, 1, 62, 1112, 1, 1), Checks.NOT_POSSIBLE, 19);
        due("between all of them", series.get().hire(0, 1, 6, 1112, 20, 3), 1);
        due("where a next one would be", series.get().hire(0, 1, 65, 1112, 1, 1), 1);
        due("where one before would be", series.get().hire(0, 1, 2, 1112, 1, 1), 1);
    }

    private void noSuchCall() {
        edges.sentence(7, "NOT_FOUND if there was no such call.");
        VillageHall hall = new VillageHall();
        due("of a new object", hall.clash(), Checks.NOT_FOUND);
        hall = tenToFourteen(1);
        hall.hire(0, 1, 10, 1515, 1, 1);
        hall.hire(0, 1, 364, 1011, 2, 1);
        hall.hire(1, 6, 10, 1014, 1, 1);
        Checks.write(hall, "0:10@10-11/h;");
        hall.textFault(0);
        hall.firstFree(1, 1, 10, 5);
        due("after calls that were not refused for a clash", hall.clash(), Checks.NOT_FOUND);
        hall.enter();
        due("after one that was", hall.clash(), 0);
        edges.onlyTells("clash", Scenes::busy, VillageHall::clash);
    }

    private void theFirstSessionThatClashes() {
        edges.sentence(7, "of the first session of the new hire that clashes, the earliest one");
        VillageHall hall = Checks.hallWithHirers(1);
        hall.hire(0, 1, 20, 810, 1, 1);     // 0
        hall.hire(0, 1, 15, 1416, 2, 1);    // 20 on 15, 21 on 16
        due("a series over all of them", hall.hire(0, 1, 14, 824, 7, 1), Checks.NOT_POSSIBLE);
        due("the first day's", hall.clash(), 20);
        due("from the next day on", hall.hire(0, 1, 16, 824, 5, 1), Checks.NOT_POSSIBLE);
        due("the next day's", hall.clash(), 21);
        due("from the day behind", hall.hire(0, 1, 17, 824, 4, 1), Checks.NOT_POSSIBLE);
        due("the last one's", hall.clash(), 0);
    }

    private void byHoursThenByNumbers() {
        edges.sentence(7, "(by hours from, then by numbers");
        VillageHall hall = Checks.hallWithHirers(1);
        hall.hire(0, 1, 9, 1112, 2, 1);     // 0 and 1
        hall.hire(0, 2, 10, 1012, 1, 1);    // 20
        hall.hire(0, 4, 10, 1011, 1, 1);    // 40, ends earlier
        due("all rooms", hall.hire(0, 7, 10, 824, 1, 1), Checks.NOT_POSSIBLE);
        due("the lesser number of the earliest hour", hall.clash(), 20);
        due("without the kitchen", hall.hire(0, 5, 10, 824, 1, 1), Checks.NOT_POSSIBLE);
        due("the earliest hour", hall.clash(), 40);
        due("from an hour on at which only the others are", hall.hire(0, 7, 10, 1124, 1, 1), Checks.NOT_POSSIBLE);
        due("the earliest hour of those", hall.clash(), 20);
        due("the first room", hall.hire(0, 1, 10, 824, 1, 1), Checks.NOT_POSSIBLE);
        due("the latest hour", hall.clash(), 1);
        hall = Checks.hallWithHirers(1);
        for (int hire = 0; hire < 12; hire++) {
            hall.hire(0, 1, 0, 101 * (11 - hire) + 1, 1, 1);
        }
        due("all the day", hall.hire(0, 1, 0, 24, 1, 1), Checks.NOT_POSSIBLE);
        due("the last hire has the earliest hour", hall.clash(), 220);
    }

    private void theLatestCall() {
        edges.sentence(7, "the session with which the latest call of hire or enter that was refused for a clash "
                + "clashed");
        VillageHall hall = Checks.hallWithHirers(1);
        hall.hire(0, 1, 10, 1012, 3, 1);
        hall.hire(0, 1, 11, 1012, 1, 1);
        due("the first call", hall.clash(), 1);
        hall.hire(0, 1, 12, 1012, 1, 1);
        due("the second call", hall.clash(), 2);
        Checks.write(hall, "0:10@9-11/h;");
        hall.enter();
        due("enter", hall.clash(), 0);
        hall.hire(0, 1, 11, 1012, 1, 1);
        due("hire after enter", hall.clash(), 1);
        Checks.write(hall, "0:10@9-11/h");
        hall.enter();
        due("enter that is refused for its form", hall.clash(), 1);
        Checks.write(hall, "0:20@9-11/h;");
        hall.enter();
        due("enter that is not refused", hall.clash(), 1);
    }

    private void clashStays() {
        edges.sentence(7, "each change records everything before it but the text and the latest clash");
        VillageHall hall = Scenes.busy();
        due("of the busy hall", hall.clash(), 1);
        hall.hire(1, 1, 14, 1213, 1, 1);
        due("a new one", hall.clash(), 2);
        while (hall.count(7) > 0) {
            hall.undo();
            due("after undo", hall.clash(), 2);
        }
        VillageHall changed = Scenes.busy();
        for (int change = 0; change < Scenes.CHANGES; change++) {
            Scenes.change(changed, change);
            due("after " + Scenes.CHANGE_NAMES[change], changed.clash(), 1);
            changed.undo();
        }
    }
}
