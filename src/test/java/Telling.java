/** Tells all that the calls of a hall tell, but for the text, the latest clash and the history. */
final class Telling {
    private Telling() {
    }

    static String of(VillageHall hall) {
        StringBuilder told = new StringBuilder();
        for (int what = 0; what <= 28; what++) {
            add(told, what == 7 || what == 8 ? 0 : hall.count(what));
        }
        for (int hirer = 0; hirer < 10; hirer++) {
            for (int what = 0; what <= 6; what++) {
                add(told, hall.hirer(hirer, what));
            }
        }
        for (int hire = 0; hire < 12; hire++) {
            for (int what = 0; what <= 15; what++) {
                add(told, hall.hireInfo(hire, what));
            }
            for (int row = 0; row < 32; row++) {
                add(told, hall.fault(hire, row / 4, row % 4));
            }
        }
        for (int session = 0; session < 240; session++) {
            for (int what = 0; what <= 3; what++) {
                add(told, hall.session(session, what));
            }
        }
        for (int key = 0; key < 6; key++) {
            for (int what = 0; what <= 4; what++) {
                add(told, hall.key(key, what));
            }
        }
        return told.toString();
    }

    private static void add(StringBuilder told, int answer) {
        told.append(answer).append(' ');
    }

    /** One of the eleven changes, which are possible in the state that DayTest makes. */
    static int change(VillageHall hall, int which) {
        switch (which) {
            case 0:
                return hall.addHirer();
            case 1:
                return hall.set(6, 17);
            case 2:
                return hall.hire(1, 1, 5, 1920, 20, 2);
            case 3:
                return hall.enter();
            case 4:
                return hall.cancel(2);
            case 5:
                return hall.pass(30);
            case 6:
                return hall.lend(4, 0);
            case 7:
                return hall.bringBack(0);
            case 8:
                return hall.report(0, 3);
            case 9:
                return hall.settle(1);
            default:
                return hall.pay(0, 100);
        }
    }
}
