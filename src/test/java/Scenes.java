/** Halls in the middle of things, for tests that ask what a call does to all the rest. */
final class Scenes {
    static final int CHANGES = 11;
    static final String[] CHANGE_NAMES = {"addHirer", "set", "hire", "enter", "cancel", "pass", "lend", "bringBack",
        "report", "settle", "pay"};

    private Scenes() {
    }

    static VillageHall onDay(int hirers, int day) {
        VillageHall hall = Checks.hallWithHirers(hirers);
        goTo(hall, day);
        return hall;
    }

    static void goTo(VillageHall hall, int day) {
        while (hall.count(0) < day) {
            hall.pass(Math.min(60, day - hall.count(0)));
        }
    }

    /**
     * The present day is 4; planned, held and cancelled sessions, a hire that is settled and one that
     * could be, a key that is late and one that is not, a fault, a clash that was told, a text and 4 states.
     */
    static VillageHall busy() {
        VillageHall hall = Checks.hallWithHirers(2);
        hall.hire(0, 3, 0, 1012, 3, 7);     // 0, 1 and 2 on the days 0, 7 and 14
        hall.hire(1, 4, 0, 1012, 1, 1);     // 20 on 0
        hall.hire(1, 1, 1, 1820, 2, 10);    // 40 and 41 on 1 and 11
        hall.hire(1, 2, 3, 1820, 1, 1);     // 60 on 3
        hall.hire(1, 2, 7, 1213, 1, 1);     // refused: the gap behind the session 1
        hall.lend(0, 0);                    // due on 16
        hall.lend(2, 1);                    // due on 2
        hall.pass(4);
        hall.report(0, 2);
        hall.cancel(41);
        hall.settle(2);
        Checks.write(hall, "0:9@9-10/hx3+1;");
        return hall;
    }

    /** As busy, but with 3 states, so that a change drops none. */
    static VillageHall busyWithThreeStates() {
        VillageHall hall = busy();
        hall.addHirer();
        hall.undo();
        return hall;
    }

    /** 10 hirers, 12 hires of 20 sessions (20 * h + k on the day k, from h to h + 1), all keys lent, a full text. */
    static VillageHall full() {
        VillageHall hall = Checks.hallWithHirers(10);
        for (int hire = 0; hire < 12; hire++) {
            hall.hire(0, 7, 0, 101 * hire + 1, 20, 1);
        }
        for (int key = 0; key < 6; key++) {
            hall.lend(key, key);
        }
        Checks.write(hall, "0:25@2-3/h".repeat(8));
        return hall;
    }

    /** One of the eleven kinds of changes, which are all possible in the busy hall. */
    static int change(VillageHall hall, int which) {
        switch (which) {
            case 0:
                return hall.addHirer();
            case 1:
                return hall.set(6, 17);
            case 2:
                return hall.hire(1, 1, 5, 1920, 20, 2);
            case 3:
                return hall.enter();
            case 4:
                return hall.cancel(2);
            case 5:
                return hall.pass(30);
            case 6:
                return hall.lend(4, 0);
            case 7:
                return hall.bringBack(0);
            case 8:
                return hall.report(0, 3);
            case 9:
                return hall.settle(3);
            default:
                return hall.pay(0, 100);
        }
    }
}
