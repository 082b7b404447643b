import java.util.function.Supplier;
import java.util.function.ToIntFunction;

/** Sentences of the document about changes and the history: promise 17. */
final class UndoEdges {
    private final Edges edges;

    UndoEdges(Edges edges) {
        this.edges = edges;
    }

    void run() {
        anEmptyHistory();
        fourStates();
        fiveStates();
        statesThatAreLeft();
        theChanges();
        refusedCallsAreNoChanges();
        otherCallsAreNoChanges();
        textsStay();
        changesAfterUndo();
    }

    private void due(String what, long got, long want) {
        edges.due(what, got, want);
    }

    private void anEmptyHistory() {
        edges.sentence(17, "NOT_POSSIBLE if it is empty.");
        edges.refused("undo of a new hall", VillageHall::new, VillageHall::undo, Checks.NOT_POSSIBLE);
        Supplier<VillageHall> undone = () -> {
            VillageHall hall = Scenes.busy();
            for (int states = 4; states > 0; states--) {
                hall.undo();
            }
            return hall;
        };
        edges.refused("a fifth undo", undone, VillageHall::undo, Checks.NOT_POSSIBLE);
        VillageHall hall = new VillageHall();
        hall.addHirer();
        due("undo of one change", hall.undo(), 0);
        due("a second undo", hall.undo(), Checks.NOT_POSSIBLE);
    }

    private void fourStates() {
        edges.sentence(17, "A history of at most 4 states is kept");
        for (int changes = 1; changes <= 6; changes++) {
            VillageHall hall = Checks.hallWithHirers(changes);
            due("states after " + changes, hall.count(7), Math.min(changes, 4));
        }
    }

    private void fiveStates() {
        edges.sentence(17, "if there are 5 states then, the oldest one is dropped.");
        for (int changes = 4; changes <= 6; changes++) {
            VillageHall hall = Checks.hallWithHirers(changes);
            for (int left = 3; left >= 0; left--) {
                due("undo of " + changes, hall.undo(), left);
                due("hirers of " + changes, hall.count(1), changes - 4 + left);
            }
            due("no more of " + changes, hall.undo(), Checks.NOT_POSSIBLE);
            due("hirers that stay of " + changes, hall.count(1), changes - 4);
        }
    }

    private void statesThatAreLeft() {
        edges.sentence(17, "Returns the number of states that are left in the history");
        VillageHall hall = Checks.hallWithHirers(3);
        due("of three", hall.undo(), 2);
        due("of two", hall.undo(), 1);
        due("count", hall.count(7), 1);
        hall.addHirer();
        due("of two again", hall.undo(), 1);
        due("of one", hall.undo(), 0);
    }

    private void theChanges() {
        edges.sentence(17, "The changes are the calls of addHirer, set, hire, enter, cancel, pass, lend, bringBack, "
                + "report, settle and pay that return no error.");
        Supplier<VillageHall> scene = Scenes::busyWithThreeStates;
        due("states before", scene.get().count(7), 3);
        String before = Telling.withHistory(scene);
        for (int change = 0; change < Scenes.CHANGES; change++) {
            int which = change;
            String name = Scenes.CHANGE_NAMES[change];
            Supplier<VillageHall> changed = () -> after(scene, hall -> Scenes.change(hall, which));
            Supplier<VillageHall> undone = () -> after(changed, VillageHall::undo);
            edges.isTrue(name + " is possible", Scenes.change(scene.get(), change) >= 0);
            due(name + " is recorded", changed.get().count(7), 4);
            edges.isTrue(name + " shows", !Telling.of(changed).equals(Telling.of(scene)));
            due("undo of " + name, changed.get().undo(), 3);
            edges.isTrue("undo of " + name + " restores all", Telling.withHistory(undone).equals(before));
        }
        due("set to the same value", after(scene, hall -> hall.set(4, 1)).count(7), 4);
        due("a day without sessions", after(scene, hall -> hall.pass(1)).count(7), 4);
        due("an empty text", after(() -> after(scene, VillageHall::clearText), VillageHall::enter).count(7), 4);
    }

    private static VillageHall after(Supplier<VillageHall> scene, ToIntFunction<VillageHall> call) {
        VillageHall hall = scene.get();
        call.applyAsInt(hall);
        return hall;
    }

    private void refusedCallsAreNoChanges() {
        edges.sentence(17, "A call that returns an error changes nothing (but what clash tells).");
        Supplier<VillageHall> scene = Scenes::busyWithThreeStates;
        edges.refused("addHirer", Scenes::full, VillageHall::addHirer, Checks.LIMIT);
        edges.refused("set", scene, h -> h.set(4, 4), Checks.INVALID);
        edges.refused("hire", scene, h -> h.hire(1, 1, 14, 1213, 1, 1), Checks.NOT_POSSIBLE, 2);
        edges.refused("enter", () -> after(scene, h -> h.type('x')), VillageHall::enter, Checks.NOT_POSSIBLE);
        edges.refused("cancel", scene, h -> h.cancel(0), Checks.NOT_POSSIBLE);
        edges.refused("pass", scene, h -> h.pass(61), Checks.INVALID);
        edges.refused("lend", scene, h -> h.lend(0, 0), Checks.NOT_POSSIBLE);
        edges.refused("bringBack", scene, h -> h.bringBack(1), Checks.NOT_POSSIBLE);
        edges.refused("report", scene, h -> h.report(2, 0), Checks.NOT_POSSIBLE);
        edges.refused("settle", scene, h -> h.settle(0), Checks.NOT_POSSIBLE);
        edges.refused("pay", scene, h -> h.pay(0, 0), Checks.INVALID);
    }

    private void otherCallsAreNoChanges() {
        edges.sentence(17, "The changes are the calls of");
        Supplier<VillageHall> scene = Scenes::busy;
        String before = Telling.of(scene);
        Supplier<VillageHall> typed = () -> after(scene, h -> h.type('x'));
        Supplier<VillageHall> cleared = () -> after(scene, VillageHall::clearText);
        due("states after type", typed.get().count(7), 4);
        due("states after clearText", cleared.get().count(7), 4);
        edges.isTrue("type leaves the rest", Telling.of(typed).equals(before));
        edges.isTrue("clearText leaves the rest", Telling.of(cleared).equals(before));
        VillageHall hall = Checks.hallWithHirers(1);
        hall.type('x');
        hall.clearText();
        hall.textFault(0);
        hall.price(1, 1011, 1);
        hall.clash();
        due("undo", hall.undo(), 0);
        due("undoes the change", hall.count(1), 0);
    }

    private void textsStay() {
        edges.sentence(17, "each change records everything before it but the text and the latest clash");
        VillageHall hall = Checks.hallWithHirers(1);
        hall.hire(0, 1, 0, 1011, 1, 1);
        Checks.write(hall, "0:1@2-3/h");
        hall.hire(0, 2, 0, 1011, 1, 1);
        hall.type(';');
        hall.hire(0, 1, 0, 1011, 1, 1);     // refused
        due("undo", hall.undo(), 2);
        due("the length", hall.count(8), 10);
        due("the clash", hall.clash(), 0);
        due("the text is possible", hall.textFault(0), Checks.NOT_FOUND);
        hall.undo();
        due("the clash with a hire that was undone", hall.clash(), 0);
        hall.undo();
        due("the text, without its hirer", hall.textFault(1), 2);
        hall = Checks.hallWithHirers(1);
        hall.type('x');
        hall.addHirer();
        hall.clearText();
        hall.undo();
        due("a text that was emptied stays empty", hall.count(8), 0);
    }

    private void changesAfterUndo() {
        edges.sentence(17, "Restores the latest state of the history, which is removed from it.");
        VillageHall hall = Scenes.busy();
        String before = Telling.of(Scenes::busy);
        for (int times = 0; times < 6; times++) {
            due("states after a change", after(hall, times), 4);
            due("undo of it", hall.undo(), 3);
        }
        edges.isTrue("the busy hall is as it was", Telling.of(() -> manyTimes(6)).equals(before));
    }

    private static int after(VillageHall hall, int change) {
        Scenes.change(hall, change);
        return hall.count(7);
    }

    private static VillageHall manyTimes(int times) {
        VillageHall hall = Scenes.busy();
        for (int change = 0; change < times; change++) {
            Scenes.change(hall, change);
            hall.undo();
        }
        return hall;
    }
}
