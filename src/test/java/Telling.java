import java.util.function.Supplier;

/**
 * Tells all that the calls of a hall tell. It is given how the hall is made, and makes it anew when
 * many questions were asked: nothing is promised of an object after its 512th call.
 */
final class Telling {
    private static final int QUESTIONS_OF_A_HALL = 200;

    private final Supplier<VillageHall> scene;
    private final StringBuilder told = new StringBuilder();
    private VillageHall hall;
    private int asked;

    private Telling(Supplier<VillageHall> scene) {
        this.scene = scene;
        this.hall = scene.get();
    }

    /** All but the text, the latest clash and the history. */
    static String of(Supplier<VillageHall> scene) {
        Telling telling = new Telling(scene);
        telling.counts();
        telling.hirers();
        telling.hires();
        telling.keys();
        telling.order();
        return telling.told.toString();
    }

    /** The text and all the states of the history too. */
    static String withHistory(Supplier<VillageHall> scene) {
        StringBuilder told = new StringBuilder();
        int states = scene.get().count(7);
        told.append(states).append(" states, text: ").append(scene.get().count(8)).append(' ')
                .append(scene.get().textFault(0)).append(' ').append(scene.get().textFault(1)).append('\n');
        for (int undone = 0; undone <= states; undone++) {
            int times = undone;
            told.append(of(() -> undo(scene.get(), times))).append('\n');
        }
        return told.toString();
    }

    private static VillageHall undo(VillageHall hall, int times) {
        for (int undone = 0; undone < times; undone++) {
            hall.undo();
        }
        return hall;
    }

    private VillageHall hall() {
        asked++;
        if (asked % QUESTIONS_OF_A_HALL == 0) {
            hall = scene.get();
        }
        return hall;
    }

    private void add(int answer) {
        told.append(answer).append(' ');
    }

    private void counts() {
        for (int what = 0; what <= 28; what++) {
            if (what != 7 && what != 8) {
                add(hall().count(what));
            }
        }
    }

    private void hirers() {
        int hirers = hall().count(1);
        for (int hirer = 0; hirer <= hirers; hirer++) {
            for (int what = 0; what <= 6; what++) {
                add(hall().hirer(hirer, what));
            }
        }
    }

    private void hires() {
        int hires = hall().count(2);
        for (int hire = 0; hire <= hires; hire++) {
            for (int what = 0; what <= 15; what++) {
                add(hall().hireInfo(hire, what));
            }
            for (int row = 0; row < 4 * Math.max(0, hall().hireInfo(hire, 13)); row++) {
                add(hall().fault(hire, row / 4, row % 4));
            }
            for (int index = 0; index <= Math.max(0, hall().hireInfo(hire, 4)); index++) {
                for (int what = 0; what <= 3; what++) {
                    add(hall().session(20 * hire + index, what));
                }
            }
        }
    }

    private void keys() {
        for (int key = 0; key < 6; key++) {
            for (int what = 0; what <= 4; what++) {
                add(hall().key(key, what));
            }
        }
    }

    private void order() {
        for (int index = 0; index <= 20; index++) {
            add(hall().inOrder(index));
        }
    }
}
