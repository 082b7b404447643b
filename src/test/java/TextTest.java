/** Promises 24 to 27: type, clearText, textFault, enter. */
public final class TextTest {
    private static final Checks CHECKS = new Checks("TextTest");

    public static void main(String[] args) {
        type();
        goodForms();
        badForms();
        reasons();
        reasonsInTheirOrder();
        positions();
        clashes();
        clashWithTheTextItself();
        tooMany();
        enter();
        enterNothing();
        enterAndUndo();
        textFaultArguments();
        clearedCharactersAreGone();
        CHECKS.end();
    }

    private static void due(String what, long got, long want) {
        CHECKS.due(what, got, want);
    }

    private static void type() {
        VillageHall hall = new VillageHall();
        due("the least", hall.type(32), 1);
        due("the greatest", hall.type(126), 2);
        int[] wrong = {31, 127, 0, -1, Integer.MAX_VALUE, Integer.MIN_VALUE};
        for (int character : wrong) {
            due("type(" + character + ")", hall.type(character), Checks.INVALID);
        }
        for (int length = 3; length <= 80; length++) {
            due("type", hall.type('0'), length);
        }
        due("a character too many", hall.type('0'), Checks.LIMIT);
        due("a wrong one then", hall.type(127), Checks.INVALID);
        due("the length", hall.count(8), 80);
        due("no change is recorded", hall.count(7), 0);
        due("clearText", hall.clearText(), 80);
        due("clearText again", hall.clearText(), 0);
        due("the length then", hall.count(8), 0);
        due("the first one again", hall.type('0'), 1);
    }

    private static void goodForms() {
        String[] good = {"0:1@2-3/h;", "0:001@002-003/hkm;", "0:364@0-24/k;", "0:0@23-24/m;", "0:1@2-3/hk;",
            "0:1@2-3/hm;", "0:1@2-3/km;", "0:1@2-3/hx1+1;", "0:1@2-3/mx020+007;", "0:1@2-3/hx1+60;", ""};
        int[] rooms = {1, 7, 2, 4, 3, 5, 6, 1, 4, 1, 0};
        for (int index = 0; index < good.length; index++) {
            VillageHall hall = Checks.hallWithHirers(1);
            Checks.write(hall, good[index]);
            due("position in " + good[index], hall.textFault(0), Checks.NOT_FOUND);
            due("reason in " + good[index], hall.textFault(1), Checks.NOT_FOUND);
            due("hires of " + good[index], hall.enter(), rooms[index] == 0 ? 0 : 1);
            if (rooms[index] != 0) {
                due("rooms of " + good[index], hall.hireInfo(0, 1), rooms[index]);
            }
        }
    }

    private static void badForms() {
        String[] bad = {";", "0", "0:1@2-3/h", "0:1@2-3/;", "0:1@2-3/kh;", "0:1@2-3/hh;", "0:1@2-3/mk;",
            "00:1@2-3/h;", ":1@2-3/h;", "0:@2-3/h;", "0:1@-3/h;", "0:1@2-/h;", "0:0001@2-3/h;", "0:1@0002-3/h;",
            "0:1@2-0003/h;", "0:1@2-3/hx2;", "0:1@2-3/hx+2;", "0:1@2-3/hx2+;", "0:1@2-3/h+2;", "0:1@2-3/hx0002+1;",
            "0:1@2-3/hx2+0001;", " 0:1@2-3/h;", "0:1@2-3/h ;", "0:1@2-3/H;", "0:1@2-3/a;", "a:1@2-3/h;", "0.1@2-3/h;",
            "0:1-2-3/h;", "0:1@2@3/h;", "0:1@2-3h;", "0:1@2-3/h:", "0:-1@2-3/h;", "0:1@2-3/hX2+1;", "0:1@2-3/hx2-1;",
            "0:1@2-3/xh2+1;", "0:1@2-3/hx2+1x2+1;", "0:1@2-3/hx", "0:1@", "~"};
        for (String text : bad) {
            VillageHall hall = Checks.hallWithHirers(1);
            Checks.write(hall, text);
            due("reason of " + text, hall.textFault(1), 1);
            due("position of " + text, hall.textFault(0), 0);
            due("enter of " + text, hall.enter(), Checks.NOT_POSSIBLE);
            due("no hire of " + text, hall.count(2), 0);
            due("no clash of " + text, hall.clash(), Checks.NOT_FOUND);
            due("no state of " + text, hall.count(7), 1);
        }
    }

    private static void reasons() {
        String[] bad = {"2:9@2-3/h;", "9:9@2-3/h;", "0:4@2-3/h;", "0:365@2-3/h;", "0:999@2-3/h;", "0:9@24-24/h;",
            "0:9@24-25/h;", "0:9@3-3/h;", "0:9@4-3/h;", "0:9@3-25/h;", "0:9@3-100/h;", "0:9@3-4/hx0+1;",
            "0:9@3-4/hx21+1;", "0:9@3-4/hx2+0;", "0:9@3-4/hx2+61;", "0:9@3-4/hx1+61;", "0:9@3-4/hx1+0;",
            "0:364@3-4/hx2+1;", "0:9@3-4/hx7+60;", "0:9@3-4/hx999+999;"};
        int[] want = {2, 2, 3, 3, 3, 3, 3, 3, 3, 3, 3, 3, 3, 3, 3, 3, 3, 3, 3, 3};
        for (int index = 0; index < bad.length; index++) {
            VillageHall hall = Checks.hallWithHirers(2);
            hall.pass(5);
            Checks.write(hall, bad[index]);
            due("reason of " + bad[index], hall.textFault(1), want[index]);
            due("enter of " + bad[index], hall.enter(), Checks.NOT_POSSIBLE);
        }
        VillageHall hall = Checks.hallWithHirers(2);
        hall.pass(5);
        Checks.write(hall, "1:5@3-4/h;");
        due("the present day", hall.textFault(1), Checks.NOT_FOUND);
        Checks.write(hall, "1:4@3-4/hx7+60;");
        due("a day before it", hall.textFault(1), 3);
        hall.undo();
        due("with the present day of then", hall.textFault(1), Checks.NOT_FOUND);
    }

    private static void reasonsInTheirOrder() {
        VillageHall hall = Checks.hallWithHirers(1);
        for (int made = 0; made < 12; made++) {
            hall.hire(0, 1, 5 * made, 1012, 1, 1);
        }
        Checks.write(hall, "1:999@10-11/H;");
        due("the form comes first", hall.textFault(1), 1);
        Checks.write(hall, "1:999@10-11/h;");
        due("then the hirer", hall.textFault(1), 2);
        Checks.write(hall, "0:5@10-10/h;");
        due("then the times", hall.textFault(1), 3);
        Checks.write(hall, "0:5@10-11/h;");
        due("then a clash", hall.textFault(1), 4);
        due("which textFault does not tell", hall.clash(), Checks.NOT_FOUND);
        due("but enter does", hall.enter(), Checks.NOT_POSSIBLE);
        due("with its number", hall.clash(), 20);
        Checks.write(hall, "0:6@10-11/h;");
        due("then a hire too many", hall.textFault(1), 5);
        due("which is not possible", hall.enter(), Checks.NOT_POSSIBLE);
        due("and tells no clash", hall.clash(), 20);
    }

    private static void positions() {
        VillageHall hall = Checks.hallWithHirers(1);
        Checks.write(hall, "0:1@2-3/h;0:2@2-3/h;0:3@2-3/x;0:1@2-3/h;");
        due("the third one", hall.textFault(0), 20);
        due("its reason", hall.textFault(1), 1);
        Checks.write(hall, "0:1@2-3/h;5:2@2-3/h;xyz");
        due("the second one", hall.textFault(0), 10);
        due("its reason is that of the first one not possible", hall.textFault(1), 2);
        Checks.write(hall, "0:1@2-3/h;0:11@12-13/hkmx2+3;0");
        due("a rest", hall.textFault(0), 29);
        Checks.write(hall, "0:1@2-3/h; ");
        due("a blank behind", hall.textFault(0), 10);
        Checks.write(hall, "0:1@2-3/h;;");
        due("a mark too many", hall.textFault(0), 10);
    }

    private static void clashes() {
        VillageHall hall = Checks.hallWithHirers(2);
        hall.hire(0, 1, 10, 1012, 3, 1);
        Checks.write(hall, "1:11@12-13/h;");
        due("the gap", hall.textFault(1), 4);
        due("enter", hall.enter(), Checks.NOT_POSSIBLE);
        due("clash", hall.clash(), 1);
        Checks.write(hall, "0:11@12-13/h;");
        due("the same hirer", hall.textFault(1), Checks.NOT_FOUND);
        Checks.write(hall, "1:11@12-13/k;");
        due("another room", hall.textFault(1), Checks.NOT_FOUND);
    }

    private static void clashWithTheTextItself() {
        VillageHall hall = Checks.hallWithHirers(2);
        hall.hire(0, 1, 100, 1012, 1, 1);
        Checks.write(hall, "0:1@10-12/h;0:1@14-16/hx3+2;1:5@15-17/hk;");
        due("position", hall.textFault(0), 28);
        due("reason", hall.textFault(1), 4);
        due("enter", hall.enter(), Checks.NOT_POSSIBLE);
        due("the number that it would have", hall.clash(), 42);
        due("nothing was made", hall.count(2), 1);
        due("nothing was charged", hall.hirer(0, 0), 2400 + 5000);
    }

    private static void tooMany() {
        VillageHall hall = Checks.hallWithHirers(1);
        for (int made = 0; made < 10; made++) {
            hall.hire(0, 1, made, 1012, 1, 1);
        }
        Checks.write(hall, "0:1@2-3/h;0:2@2-3/h;");
        due("two more", hall.textFault(1), Checks.NOT_FOUND);
        Checks.write(hall, "0:1@2-3/h;0:2@2-3/h;0:3@2-3/h;");
        due("three more", hall.textFault(1), 5);
        due("the third of them", hall.textFault(0), 20);
        due("enter", hall.enter(), Checks.NOT_POSSIBLE);
        due("hires", hall.count(2), 10);
        Checks.write(hall, "0:1@2-3/h;0:2@2-3/h;0:2@2-3/h;");
        due("a clash comes first", hall.textFault(1), 4);
        hall.enter();
        due("with the last hire", hall.clash(), 220);
    }

    private static void enter() {
        VillageHall hall = Checks.hallWithHirers(3);
        Checks.write(hall, "2:10@17-20/hkx4+7;1:12@20-22/km;0:364@0-24/m;");
        due("enter", hall.enter(), 3);
        int[][] want = {
            {2, 3, 17, 20, 4, 10, 7, 25200, 10, 4, 0, 0, 5000, 0, 0, 0},
            {1, 6, 20, 22, 1, 12, 1, 3500, 0, 1, 0, 0, 5000, 0, 0, 0},
            {0, 4, 0, 24, 1, 364, 1, 15300, 0, 1, 0, 0, 5000, 0, 0, 0}};
        for (int hire = 0; hire < want.length; hire++) {
            for (int what = 0; what < want[hire].length; what++) {
                due("hireInfo(" + hire + ", " + what + ")", hall.hireInfo(hire, what), want[hire][what]);
            }
        }
        due("charged", hall.hirer(2, 0), 30200);
        due("prices", hall.count(20), 44000);
        due("deposits", hall.count(23), 15000);
        due("the text stays", hall.count(8), 45);
        due("one state more", hall.count(7), 4);
        due("it clashes now", hall.textFault(1), 4);
        due("no clash was told", hall.clash(), Checks.NOT_FOUND);
    }

    private static void enterNothing() {
        VillageHall hall = new VillageHall();
        due("an empty text", hall.enter(), 0);
        due("is a change", hall.count(7), 1);
        due("which can be undone", hall.undo(), 0);
    }

    private static void enterAndUndo() {
        VillageHall hall = Checks.hallWithHirers(1);
        Checks.write(hall, "0:1@2-3/h;0:2@2-3/h;");
        due("enter", hall.enter(), 2);
        due("undo takes all of them away", hall.undo(), 1);
        due("hires", hall.count(2), 0);
        due("enter again", hall.enter(), 2);
        due("undo again", hall.undo(), 1);
        due("undo of the hirer", hall.undo(), 0);
        due("no hirer now", hall.textFault(1), 2);
    }

    private static void textFaultArguments() {
        VillageHall hall = new VillageHall();
        due("textFault(-1)", hall.textFault(-1), Checks.INVALID);
        due("textFault(2)", hall.textFault(2), Checks.INVALID);
        due("an empty text", hall.textFault(0), Checks.NOT_FOUND);
        hall.type('x');
        due("textFault(2) with a fault", hall.textFault(2), Checks.INVALID);
        due("textFault(MAX)", hall.textFault(Integer.MAX_VALUE), Checks.INVALID);
    }

    private static void clearedCharactersAreGone() {
        VillageHall hall = Checks.hallWithHirers(1);
        Checks.write(hall, "0:1@2-3/h;0:1@2-3/h;");
        due("a clash", hall.textFault(1), 4);
        hall.clearText();
        due("an empty text has no fault", hall.textFault(1), Checks.NOT_FOUND);
        due("and can be entered", hall.enter(), 0);
        Checks.write(hall, "0:1@2-3/h");
        due("the mark of before does not count", hall.textFault(1), 1);
        Checks.write(hall, "0:1@2-3/h;");
        due("nor the hire behind it", hall.enter(), 1);
    }
}
