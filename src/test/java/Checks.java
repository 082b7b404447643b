/** Counts the answers that are not due, and prints them. */
final class Checks {
    static final int INVALID = -2000000001;
    static final int NOT_POSSIBLE = -2000000002;
    static final int LIMIT = -2000000003;
    static final int NOT_FOUND = -2000000004;

    private final String test;
    private int asked;
    private int wrong;

    Checks(String test) {
        this.test = test;
    }

    void due(String what, long got, long want) {
        asked++;
        if (got != want) {
            wrong++;
            System.out.println(test + ": " + what + " answered " + got + ", due is " + want);
        }
    }

    void isTrue(String what, boolean holds) {
        due(what, holds ? 1 : 0, 1);
    }

    int asked() {
        return asked;
    }

    void end() {
        System.out.println(test + ": " + asked + " answers, " + wrong + " wrong");
        if (wrong != 0) {
            System.exit(1);
        }
    }

    static VillageHall hallWithHirers(int hirers) {
        VillageHall hall = new VillageHall();
        for (int made = 0; made < hirers; made++) {
            hall.addHirer();
        }
        return hall;
    }

    static void write(VillageHall hall, String text) {
        hall.clearText();
        for (int index = 0; index < text.length(); index++) {
            hall.type(text.charAt(index));
        }
    }
}
