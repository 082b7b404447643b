import java.util.function.Supplier;

/** Sentences of the document about entering texts: promise 27. */
final class EnterEdges {
    private static final String EIGHT =
            "0:1@2-3/h;0:2@2-3/h;0:3@2-3/h;0:4@2-3/h;0:5@2-3/h;0:6@2-3/h;0:7@2-3/h;0:8@2-3/h;";

    private final Edges edges;

    EnterEdges(Edges edges) {
        this.edges = edges;
    }

    void run() {
        howMany();
        oneAfterTheOther();
        allOrNothing();
        theTextStays();
        twelveHires();
        oneState();
        clashesOfTheText();
        clashesOfSeries();
        otherReasonsTellNoClash();
        pricesOfNow();
    }

    private void due(String what, long got, long want) {
        edges.due(what, got, want);
    }

    private static VillageHall with(int hirers, String text) {
        VillageHall hall = Checks.hallWithHirers(hirers);
        Checks.write(hall, text);
        return hall;
    }

    private void howMany() {
        edges.sentence(27, "Returns how many there are in it");
        due("none", new VillageHall().enter(), 0);
        due("none, with hirers", with(1, "").enter(), 0);
        due("one", with(1, "0:1@2-3/h;").enter(), 1);
        due("two", with(1, "0:1@2-3/h;0:2@2-3/hx20+1;").enter(), 2);
        due("eight in 80 characters", with(1, EIGHT).enter(), 8);
    }

    private void oneAfterTheOther() {
        edges.sentence(27, "The hires are made one after the other.");
        VillageHall hall = with(2, "1:9@10-12/h;0:4@10-12/kx2+3;1:4@13-14/k;");
        hall.hire(0, 4, 0, 1011, 1, 1);
        due("enter", hall.enter(), 3);
        int[][] want = {{1, 1, 10, 12, 1, 9, 1, 2400}, {0, 2, 10, 12, 2, 4, 3, 3200}, {1, 2, 13, 14, 1, 4, 1, 800}};
        for (int index = 0; index < want.length; index++) {
            for (int what = 0; what < want[index].length; what++) {
                due("hireInfo(" + (index + 1) + ", " + what + ")", hall.hireInfo(index + 1, what), want[index][what]);
            }
        }
        due("hires", hall.count(2), 4);
        due("charged to 0", hall.hirer(0, 0), 600 + 3200 + 10000);
        due("charged to 1", hall.hirer(1, 0), 2400 + 800 + 10000);
        due("deposits held", hall.count(23), 20000);
    }

    private void allOrNothing() {
        edges.sentence(27, "NOT_POSSIBLE if it has a fault.");
        String[] faults = {"0:9@2-3/h", "2:9@2-3/h;", "0:9@3-3/h;", "0:365@2-3/h;", "0:364@2-3/hx2+1;", "~", ";"};
        for (String fault : faults) {
            edges.refused("enter of " + fault, () -> busyWith(fault), VillageHall::enter, Checks.NOT_POSSIBLE);
            edges.refused("enter of a good one and " + fault, () -> busyWith("0:9@9-10/h;" + fault),
                    VillageHall::enter, Checks.NOT_POSSIBLE);
        }
        edges.refused("enter of a clash", () -> busyWith("1:7@12-13/k;"), VillageHall::enter, Checks.NOT_POSSIBLE, 1);
        edges.refused("enter of a full hall", Scenes::full, VillageHall::enter, Checks.NOT_POSSIBLE);
    }

    private static VillageHall busyWith(String text) {
        VillageHall hall = Scenes.busy();
        Checks.write(hall, text);
        return hall;
    }

    private void theTextStays() {
        edges.sentence(27, "Makes all hires of the text, which stays.");
        VillageHall hall = with(1, EIGHT);
        due("enter", hall.enter(), 8);
        due("the length", hall.count(8), 80);
        due("it clashes now", hall.textFault(1), 4);
        due("enter again", hall.enter(), Checks.NOT_POSSIBLE);
        due("the length after that", hall.count(8), 80);
        hall.undo();
        due("the length after undo", hall.count(8), 80);
        due("enter after undo", hall.enter(), 8);
    }

    private void twelveHires() {
        edges.sentence(27, "there are at most 12 of them.");
        Supplier<VillageHall> four = () -> {
            VillageHall hall = with(1, EIGHT);
            for (int made = 0; made < 4; made++) {
                hall.hire(0, 1, made, 1012, 1, 1);
            }
            return hall;
        };
        VillageHall hall = four.get();
        due("up to 12", hall.enter(), 8);
        due("hires", hall.count(2), 12);
        due("the last one's day", hall.hireInfo(11, 5), 8);
        due("a thirteenth", hall.hire(0, 2, 20, 1011, 1, 1), Checks.LIMIT);
        edges.refused("up to 13", () -> {
            VillageHall five = four.get();
            five.hire(0, 2, 20, 1011, 1, 1);
            return five;
        }, VillageHall::enter, Checks.NOT_POSSIBLE);
        edges.refused("a thirteenth by text", () -> {
            VillageHall full = Scenes.full();
            Checks.write(full, "0:25@2-3/h;");
            return full;
        }, VillageHall::enter, Checks.NOT_POSSIBLE);
    }

    private void oneState() {
        edges.sentence(27, "each change records everything before it");
        VillageHall hall = with(1, EIGHT);
        due("enter", hall.enter(), 8);
        due("states", hall.count(7), 2);
        due("undo", hall.undo(), 1);
        due("hires", hall.count(2), 0);
        due("hirers", hall.count(1), 1);
        VillageHall empty = new VillageHall();
        empty.enter();
        due("states after an empty text", empty.count(7), 1);
    }

    private void clashesOfTheText() {
        edges.sentence(27, "also one of a hire ahead in the text, with the number that it would have");
        VillageHall hall = with(2, "0:5@10-12/hx2+3;1:8@12-13/h;");
        hall.hire(0, 1, 100, 1012, 1, 1);
        due("enter", hall.enter(), Checks.NOT_POSSIBLE);
        due("clash", hall.clash(), 21);
        due("no such session", hall.session(21, 0), Checks.INVALID);
        Checks.write(hall, "1:5@10-12/h;0:5@14-16/h;1:5@9-15/hk;");
        due("enter of another", hall.enter(), Checks.NOT_POSSIBLE);
        due("the earlier one", hall.clash(), 20);
        Checks.write(hall, "0:99@10-12/h;0:100@11-13/h;");
        due("enter of a third", hall.enter(), Checks.NOT_POSSIBLE);
        due("one that there is", hall.clash(), 0);
    }

    private void clashesOfSeries() {
        edges.sentence(27, "of the first session of the new hire that clashes, the earliest one");
        VillageHall hall = with(1, "0:5@14-15/hx9+1;0:8@9-10/h;0:3@8-24/hx9+1;");
        hall.hire(0, 2, 4, 1012, 1, 1);
        due("enter", hall.enter(), Checks.NOT_POSSIBLE);
        due("the first day's", hall.clash(), 20);
        Checks.write(hall, "0:5@14-15/hx9+1;0:8@9-10/h;0:8@8-24/hx9+1;");
        due("enter from the day 8 on", hall.enter(), Checks.NOT_POSSIBLE);
        due("the earliest hour's", hall.clash(), 40);
        Checks.write(hall, "0:5@14-15/hx9+1;0:8@9-10/h;0:9@8-24/hx9+1;");
        due("enter from the day 9 on", hall.enter(), Checks.NOT_POSSIBLE);
        due("the fifth session's", hall.clash(), 24);
    }

    private void otherReasonsTellNoClash() {
        edges.sentence(27, "the latest call of hire or enter that was refused for a clash");
        VillageHall hall = with(1, "0:5@10-12/h;0:5@10-12/h");
        due("a form behind a good one", hall.enter(), Checks.NOT_POSSIBLE);
        due("clash", hall.clash(), Checks.NOT_FOUND);
        Checks.write(hall, "0:5@10-12/h;1:5@10-12/h;0:5@10-12/h;");
        due("a hirer ahead of a clash", hall.enter(), Checks.NOT_POSSIBLE);
        due("clash then", hall.clash(), Checks.NOT_FOUND);
        Checks.write(hall, "0:5@10-12/h;0:5@10-12/h;");
        due("a clash", hall.enter(), Checks.NOT_POSSIBLE);
        due("clash at last", hall.clash(), 0);
        Checks.write(hall, "0:5@10-12/h;");
        due("a good one", hall.enter(), 1);
        due("clash stays", hall.clash(), 0);
    }

    private void pricesOfNow() {
        edges.sentence(27, "Prices are those of the rates when the hire is made.");
        VillageHall hall = with(1, "0:5@17-19/hx4+1;");
        hall.set(0, 5000);
        hall.set(5, 50000);
        due("enter", hall.enter(), 1);
        hall.set(0, 0);
        due("the price", hall.hireInfo(0, 7), 40500);
        due("the deposit", hall.hireInfo(0, 12), 50000);
        due("the discount", hall.hireInfo(0, 8), 10);
        due("charged", hall.hirer(0, 0), 90500);
        due("the share", hall.session(3, 2), 10125);
    }
}
