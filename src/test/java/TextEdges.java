import java.util.function.Supplier;

/** Sentences of the document about texts and their faults: promises 24 to 26. */
final class TextEdges {
    private final Edges edges;

    TextEdges(Edges edges) {
        this.edges = edges;
    }

    void run() {
        characters();
        eightyCharacters();
        wrongCharactersInAFullText();
        clearing();
        numbersOfWhat();
        noFault();
        digits();
        numbersThatAreRead();
        rooms();
        series();
        marks();
        positions();
        hirers();
        days();
        hours();
        sessionsAndIntervals();
        theLastDay();
        clashes();
        clashesWithTheText();
        tooMany();
        theFirstReason();
        asEnteredNow();
        whatClashTellsStays();
    }

    private void due(String what, long got, long want) {
        edges.due(what, got, want);
    }

    private static VillageHall with(VillageHall hall, String text) {
        Checks.write(hall, text);
        return hall;
    }

    private void hasNoFault(String text, Supplier<VillageHall> scene) {
        due("position in " + text, with(scene.get(), text).textFault(0), Checks.NOT_FOUND);
        due("reason in " + text, with(scene.get(), text).textFault(1), Checks.NOT_FOUND);
    }

    private void hasFault(String text, Supplier<VillageHall> scene, int position, int reason) {
        due("position in " + text, with(scene.get(), text).textFault(0), position);
        due("reason in " + text, with(scene.get(), text).textFault(1), reason);
    }

    private static VillageHall one() {
        return Checks.hallWithHirers(1);
    }

    private void characters() {
        edges.sentence(24, "`character`: 32 to 126");
        due("the least", new VillageHall().type(32), 1);
        due("the greatest", new VillageHall().type(126), 1);
        for (int character : new int[] {31, 127, -1, 0, 256 + 'h', Integer.MIN_VALUE, Integer.MAX_VALUE}) {
            edges.refused("type(" + character + ")", Scenes::busy, h -> h.type(character), Checks.INVALID);
        }
    }

    private void eightyCharacters() {
        edges.sentence(24, "LIMIT_REACHED if it has 80 characters.");
        VillageHall hall = new VillageHall();
        for (int length = 1; length <= 80; length++) {
            due("type", hall.type('0'), length);
        }
        due("one more", hall.type('0'), Checks.LIMIT);
        due("the length", hall.count(8), 80);
        edges.refused("one more in a full hall", Scenes::full, h -> h.type(';'), Checks.LIMIT);
        String text = "0:1@2-3/h;0:2@2-3/h;0:3@2-3/h;0:4@2-3/h;0:5@2-3/h;0:6@2-3/h;0:7@2-3/h;0:008@2-3/h";
        due("the length of another", with(one(), text.substring(0, 80)).count(8), 80);
        hasFault(text.substring(0, 80), TextEdges::one, 70, 1);
        hasNoFault(text.replace("008@2-3/h", "8@2-3/h;"), TextEdges::one);
    }

    private void wrongCharactersInAFullText() {
        edges.sentence(24, "INVALID_ARGUMENT if character is out of range; LIMIT_REACHED");
        edges.refused("31", Scenes::full, h -> h.type(31), Checks.INVALID);
        edges.refused("127", Scenes::full, h -> h.type(127), Checks.INVALID);
    }

    private void clearing() {
        edges.sentence(25, "Returns the length it had.");
        VillageHall hall = new VillageHall();
        due("of an empty text", hall.clearText(), 0);
        hall.type('x');
        due("a fault", hall.textFault(0), 0);
        due("of one character", hall.clearText(), 1);
        due("again", hall.clearText(), 0);
        due("no fault then", hall.textFault(0), Checks.NOT_FOUND);
        due("no hire then", hall.enter(), 0);
        VillageHall full = Scenes.full();
        due("of 80 characters", full.clearText(), 80);
        due("the length then", full.count(8), 0);
        due("the first character then", full.type(';'), 1);
        due("its fault", full.textFault(0), 0);
        due("states", full.count(7), 4);
    }

    private void numbersOfWhat() {
        edges.sentence(26, "`what`: 0: its position; 1: its reason");
        for (int what : new int[] {-1, 2, Integer.MIN_VALUE, Integer.MAX_VALUE}) {
            edges.refused("textFault(" + what + ")", Scenes::full, h -> h.textFault(what), Checks.INVALID);
            edges.refused("textFault(" + what + ") without a fault", Scenes::busy, h -> h.textFault(what),
                    Checks.INVALID);
        }
        due("position", Scenes.full().textFault(0), 0);
        due("reason", Scenes.full().textFault(1), 1);
        edges.onlyTells("textFault", Scenes::busy, h -> h.textFault(0));
        edges.onlyTells("textFault of a fault", Scenes::full, h -> h.textFault(1));
    }

    private void noFault() {
        edges.sentence(26, "NOT_FOUND if the text has no fault (also if it is empty).");
        hasNoFault("", VillageHall::new);
        hasNoFault("0:0@0-1/h;", TextEdges::one);
        hasFault(" ", TextEdges::one, 0, 1);
        hasFault(";", TextEdges::one, 0, 1);
    }

    private void digits() {
        edges.sentence(26, "Numbers have 1 to 3 digits (the hirer 1), zeros may stand ahead.");
        String[] good = {"0:1@2-3/hx4+5;", "0:01@02-03/hx04+05;", "0:001@002-003/hx004+005;"};
        for (String text : good) {
            hasNoFault(text, TextEdges::one);
        }
        String[] bad = {":1@2-3/h;", "00:1@2-3/h;", "01:1@2-3/h;", "0:@2-3/h;", "0:0001@2-3/h;", "0:1@-3/h;",
            "0:1@0002-3/h;", "0:1@2-/h;", "0:1@2-0003/h;", "0:1@2-3/hx+5;", "0:1@2-3/hx0004+5;", "0:1@2-3/hx4+;",
            "0:1@2-3/hx4+0005;", "/:1@2-3/h;", "::1@2-3/h;", "0:/@2-3/h;", "0::@2-3/h;", "0:1@/-3/h;", "0:1@:-3/h;",
            "0:1@2-//h;", "0:1@2-:/h;", "0:1@2-3/hx/+5;", "0:1@2-3/hx:+5;", "0:1@2-3/hx4+/;", "0:1@2-3/hx4+:;",
            "0:+1@2-3/h;", "0:-1@2-3/h;", "0: 1@2-3/h;", "a:1@2-3/h;", "0:1a@2-3/h;"};
        for (String text : bad) {
            hasFault(text, TextEdges::one, 0, 1);
        }
    }

    private void numbersThatAreRead() {
        edges.sentence(26, "zeros may stand ahead.");
        String[] texts = {"9:109@8-19/kx10+20;", "9:109@008-019/kx010+020;"};
        int[] want = {9, 2, 8, 19, 10, 109, 20};
        for (String text : texts) {
            VillageHall hall = with(Checks.hallWithHirers(10), text);
            due("enter of " + text, hall.enter(), 1);
            for (int what = 0; what < want.length; what++) {
                due("hireInfo(0, " + what + ") of " + text, hall.hireInfo(0, what), want[what]);
            }
        }
    }

    private void rooms() {
        edges.sentence(26, "letters for the rooms, \"h\" (0), \"k\" (1), \"m\" (2), in this order, at least one");
        String[] good = {"h", "k", "hk", "m", "hm", "km", "hkm"};
        for (int rooms = 1; rooms <= 7; rooms++) {
            String text = "0:1@2-3/" + good[rooms - 1] + ";";
            hasNoFault(text, TextEdges::one);
            VillageHall hall = with(one(), text);
            hall.enter();
            due("rooms of " + text, hall.hireInfo(0, 1), rooms);
        }
        for (String bad : new String[] {"", "kh", "mh", "mk", "hmk", "khm", "hh", "kk", "mm", "hkmh", "H", "g", "i",
            "j", "l", "n", "x1+1", "h k"}) {
            hasFault("0:1@2-3/" + bad + ";", TextEdges::one, 0, 1);
        }
    }

    private void series() {
        edges.sentence(26, "for a series, \"x\", the number of sessions, \"+\", the interval (without this there "
                + "is one session)");
        String[] texts = {"0:1@2-3/h;", "0:1@2-3/hx1+60;", "0:1@2-3/hx2+1;", "0:1@2-3/hx20+1;"};
        int[] want = {1, 1, 2, 20};
        for (int index = 0; index < texts.length; index++) {
            VillageHall hall = with(one(), texts[index]);
            hall.enter();
            due("sessions of " + texts[index], hall.hireInfo(0, 4), want[index]);
            due("sessions of the hall", hall.count(3), want[index]);
        }
        for (String bad : new String[] {"x", "x2", "x2+", "x+1", "+1", "2+1", "X2+1", "x2-1", "x2+1x2+1", "x2+1h",
            "x 2+1", "xx2+1"}) {
            hasFault("0:1@2-3/h" + bad + ";", TextEdges::one, 0, 1);
        }
    }

    private void marks() {
        edges.sentence(26, "It is a sequence of hires, each followed by \";\"");
        String text = "0:1@2-3/hx2+3;";
        for (int length = 1; length < text.length(); length++) {
            hasFault(text.substring(0, length), TextEdges::one, 0, 1);
            String other = text.substring(0, length - 1) + "~" + text.substring(length);
            hasFault(other, TextEdges::one, 0, 1);
        }
        hasNoFault(text, TextEdges::one);
        hasFault(text + ";", TextEdges::one, 14, 1);
        hasFault(text + " ", TextEdges::one, 14, 1);
        hasFault(text + "0:9@2-3/h", TextEdges::one, 14, 1);
        hasNoFault(text + "0:9@2-3/h;", TextEdges::one);
        hasFault("0:9@2-3/h," + text, TextEdges::one, 0, 1);
    }

    private void positions() {
        edges.sentence(26, "The fault of the text is the position, from 0, of the first character of the first hire "
                + "that is not possible");
        hasFault("1:1@2-3/h;", TextEdges::one, 0, 2);
        hasFault("0:1@2-3/h;1:1@2-3/h;", TextEdges::one, 10, 2);
        hasFault("0:1@2-3/h;0:001@004-005/hkmx2+2;0:1@3-3/h;xyz", TextEdges::one, 32, 3);
        hasFault("0:1@2-3/h;0:1@2-3/h;1:1@2-3/h;", TextEdges::one, 10, 4);
        hasFault("0:1@2-3/h;0:2@2-3/h;0:3@2-3/h;0:4@2-3/h;0:5@2-3/h;0:6@2-3/h;0:7@2-3/h;~", TextEdges::one, 70, 1);
        hasFault("0:1@2-3/h;0:2@2-3/h;0:3@2-3/h;0:4@2-3/h;0:5@2-3/h;0:6@2-3/h;0:7@2-3/h;0:8@2-3/h~",
                TextEdges::one, 70, 1);
        hasFault("0:001@002-003/hkmx01+01;0:001@004-005/hkmx01+01;0:001@006-007/hkmx01+01;0:1@7-7~",
                TextEdges::one, 72, 1);
    }

    private void hirers() {
        edges.sentence(26, "2 if there is no such hirer");
        for (int hirers : new int[] {0, 1, 9}) {
            hasFault(hirers + ":1@2-3/h;", () -> Checks.hallWithHirers(hirers), 0, 2);
        }
        hasNoFault("0:1@2-3/h;", () -> Checks.hallWithHirers(1));
        hasNoFault("8:1@2-3/h;", () -> Checks.hallWithHirers(9));
        hasNoFault("9:1@2-3/h;", () -> Checks.hallWithHirers(10));
    }

    private void days() {
        edges.sentence(26, "3 if a day, an hour, the sessions or the interval are not possible (as for hire");
        for (int present : new int[] {1, 10, 364}) {
            Supplier<VillageHall> scene = () -> Scenes.onDay(1, present);
            hasFault("0:" + (present - 1) + "@2-3/h;", scene, 0, 3);
            hasNoFault("0:" + present + "@2-3/h;", scene);
            hasNoFault("0:364@2-3/h;", scene);
            hasFault("0:365@2-3/h;", scene, 0, 3);
        }
        hasNoFault("0:0@2-3/h;", TextEdges::one);
        hasFault("0:999@2-3/h;", TextEdges::one, 0, 3);
        hasFault("0:364@2-3/h;", () -> Scenes.onDay(1, 365), 0, 3);
        hasFault("0:365@2-3/h;", () -> Scenes.onDay(1, 365), 0, 3);
    }

    private void hours() {
        edges.sentence(26, "an hour");
        for (String good : new String[] {"0-1", "0-24", "23-24", "1-2", "22-24"}) {
            hasNoFault("0:5@" + good + "/h;", TextEdges::one);
        }
        for (String bad : new String[] {"0-0", "1-1", "23-23", "24-24", "1-0", "24-23", "0-25", "23-25", "24-25",
            "0-100", "0-124", "100-101", "100-2", "999-999"}) {
            hasFault("0:5@" + bad + "/h;", TextEdges::one, 0, 3);
        }
    }

    private void sessionsAndIntervals() {
        edges.sentence(26, "the sessions or the interval are not possible");
        for (String good : new String[] {"1+1", "20+1", "1+60", "2+60", "20+18"}) {
            hasNoFault("0:5@2-3/hx" + good + ";", TextEdges::one);
        }
        for (String bad : new String[] {"0+1", "21+1", "0+60", "1+0", "2+0", "1+61", "2+61", "0+0", "999+999", "100+1",
            "1+100"}) {
            hasFault("0:5@2-3/hx" + bad + ";", TextEdges::one, 0, 3);
        }
    }

    private void theLastDay() {
        edges.sentence(26, "also if the last session would be after the day 364)");
        hasNoFault("0:4@2-3/hx7+60;", TextEdges::one);
        hasFault("0:5@2-3/hx7+60;", TextEdges::one, 0, 3);
        hasNoFault("0:345@2-3/hx20+1;", TextEdges::one);
        hasFault("0:346@2-3/hx20+1;", TextEdges::one, 0, 3);
        hasNoFault("0:364@2-3/hx1+60;", TextEdges::one);
        hasFault("0:364@2-3/hx2+1;", TextEdges::one, 0, 3);
    }

    private void clashes() {
        edges.sentence(26, "4 if it clashes");
        Supplier<VillageHall> scene = () -> {
            VillageHall hall = Checks.hallWithHirers(2);
            hall.hire(0, 1, 10, 1014, 2, 5);
            return hall;
        };
        hasNoFault("1:10@15-16/h;", scene);
        hasFault("1:10@14-16/h;", scene, 0, 4);
        hasNoFault("0:10@14-16/h;", scene);
        hasFault("0:10@13-16/h;", scene, 0, 4);
        hasNoFault("1:10@8-9/h;", scene);
        hasFault("1:10@8-10/h;", scene, 0, 4);
        hasNoFault("1:10@8-10/km;", scene);
        hasNoFault("1:11@10-14/hx4+1;", scene);
        hasFault("1:11@10-14/hx5+1;", scene, 0, 4);
    }

    private void clashesWithTheText() {
        edges.sentence(26, "(also with those ahead of it in the text)");
        Supplier<VillageHall> two = () -> Checks.hallWithHirers(2);
        hasNoFault("0:5@10-12/h;1:5@13-14/h;", two);
        hasFault("0:5@10-12/h;1:5@12-14/h;", two, 12, 4);
        hasNoFault("0:5@10-12/h;0:5@12-14/h;", two);
        hasFault("0:5@10-12/h;0:5@11-14/h;", two, 12, 4);
        hasFault("0:5@10-12/hx3+2;0:6@10-12/h;0:9@11-13/h;", two, 28, 4);
    }

    private static VillageHall withHires(int hires) {
        VillageHall hall = one();
        for (int made = 0; made < hires; made++) {
            hall.hire(0, 1, made, 1012, 1, 1);
        }
        return hall;
    }

    private void tooMany() {
        edges.sentence(26, "5 if it is a hire too many");
        hasNoFault("0:1@2-3/h;", () -> withHires(11));
        hasFault("0:1@2-3/h;", () -> withHires(12), 0, 5);
        hasFault("0:1@2-3/h;0:2@2-3/h;", () -> withHires(11), 10, 5);
        String eight = "0:1@2-3/h;0:2@2-3/h;0:3@2-3/h;0:4@2-3/h;0:5@2-3/h;0:6@2-3/h;0:7@2-3/h;0:8@2-3/h;";
        hasNoFault(eight, () -> withHires(4));
        hasFault(eight, () -> withHires(5), 70, 5);
        hasNoFault("", () -> withHires(12));
    }

    private void theFirstReason() {
        edges.sentence(26, "the first one of these that applies.");
        Supplier<VillageHall> full = () -> withHires(12);
        hasFault("1:999@3-3/hh;", full, 0, 1);
        hasFault("1:999@3-3/h", full, 0, 1);
        hasFault("1:999@3-3/h;", full, 0, 2);
        hasFault("1:5@10-12/h;", full, 0, 2);
        hasFault("0:365@10-12/h;", full, 0, 3);
        hasFault("0:5@12-12/h;", full, 0, 3);
        hasFault("0:5@10-12/hx20+61;", full, 0, 3);
        hasFault("0:11@10-12/hx20+60;", full, 0, 3);
        hasFault("0:11@10-12/h;", full, 0, 4);
        hasFault("0:12@10-12/h;", full, 0, 5);
        hasFault("0:12@10-12/h;~", full, 0, 5);
    }

    private void asEnteredNow() {
        edges.sentence(26, "Tells about the fault of the text, as it would be entered now.");
        VillageHall hall = with(new VillageHall(), "0:1@2-3/h;");
        due("without hirers", hall.textFault(1), 2);
        hall.addHirer();
        due("with a hirer", hall.textFault(1), Checks.NOT_FOUND);
        hall.hire(0, 1, 1, 203, 1, 1);
        due("with a hire", hall.textFault(1), 4);
        hall.cancel(0);
        due("when it is cancelled", hall.textFault(1), Checks.NOT_FOUND);
        hall.pass(1);
        due("on the day", hall.textFault(1), Checks.NOT_FOUND);
        hall.pass(1);
        due("a day later", hall.textFault(1), 3);
        hall.undo();
        due("after undo", hall.textFault(1), Checks.NOT_FOUND);
        hall.type('0');
        due("with a character more", hall.textFault(0), 10);
    }

    private void whatClashTellsStays() {
        edges.sentence(26, "(What clash tells stays.)");
        VillageHall hall = with(withHires(2), "0:1@10-12/h;");
        due("the fault", hall.textFault(1), 4);
        due("none was told", hall.clash(), Checks.NOT_FOUND);
        hall.hire(0, 1, 0, 1012, 1, 1);
        due("the fault again", hall.textFault(1), 4);
        due("the one that was told", hall.clash(), 0);
    }
}
