/** Promises 1 to 12: a new object, stories, hearers, houses, days. */
public final class StoriesHearersHousesTest {
    public static void main(String[] args) {
        constants();
        aNewObject();
        objectsAreApart();
        story();
        hearer();
        of();
        ofTellsMoodByEachLetter();
        at();
        good();
        had();
        row();
        feed();
        houseHolds();
        houseFaults();
        houseClausesAndNesting();
        housePrecedence();
        told();
        pass();
        Check.end("StoriesHearersHousesTest");
    }

    private static void constants() {
        Check.due("NONE", ToldMeThat.NONE, -1);
        Check.due("BAD", ToldMeThat.BAD, -2);
        Check.due("STATE", ToldMeThat.STATE, -3);
        Check.due("FULL", ToldMeThat.FULL, -4);
        Check.due("NO", ToldMeThat.NO, Long.MIN_VALUE);
    }

    private static void aNewObject() {
        ToldMeThat x = new ToldMeThat();
        for (int what = 0; what <= 6; what++) {
            Check.due("new: count(" + what + ")", x.count(what), 0);
        }
        Check.due("new: told(0)", x.told(0), 0);
        Check.due("new: told(1)", x.told(1), 20);
        Check.due("new: told(2)", x.told(2), 5);
        Check.due("new: undo()", x.undo(), ToldMeThat.STATE);
        Check.due("new: trace(0)", x.trace(0), ToldMeThat.NONE);
        Check.due("new: read(0, 0)", x.read(0, 0), ToldMeThat.NO);
    }

    // A new object has nothing of those made and used ahead of it, nor do they have of it.
    private static void objectsAreApart() {
        ToldMeThat full = Room.full();
        ToldMeThat empty = Room.empty();
        ToldMeThat some = Room.some();
        Room.lastDay();
        Check.due("full", Room.tell(full).equals(Room.tell(Room.full())) ? 1 : 0, 1);
        Check.due("empty", Room.tell(empty).equals(Room.tell(Room.empty())) ? 1 : 0, 1);
        Check.due("some", Room.tell(some).equals(Room.tell(Room.some())) ? 1 : 0, 1);
    }

    private static void story() {
        ToldMeThat x = new ToldMeThat();
        int[][] bad = {{0, 1}, {31, 1}, {1, 0}, {1, 10}, {-5, 5}, {5, -5},
            {Integer.MIN_VALUE, 1}, {1, Integer.MAX_VALUE}};
        for (int[] b : bad) {
            Check.due("story bad", x.story(b[0], b[1]), ToldMeThat.BAD);
        }
        Check.due("story(1, 1)", x.story(1, 1), 0);
        Check.due("story(30, 9)", x.story(30, 9), 1);
        for (int s = 2; s < 8; s++) {
            Check.due("story " + s, x.story(10, 3), s);
        }
        Check.due("a ninth story", x.story(10, 3), ToldMeThat.FULL);
        Check.due("a bad ninth story", x.story(0, 3), ToldMeThat.BAD);
        Check.due("count(1)", x.count(1), 8);
    }

    private static void hearer() {
        ToldMeThat x = new ToldMeThat();
        Check.due("hearer(-1, 0)", x.hearer(-1, 0), ToldMeThat.NONE);
        Check.due("hearer(7, 0)", x.hearer(7, 0), ToldMeThat.NONE);
        Check.due("hearer(7, 10)", x.hearer(7, 10), ToldMeThat.NONE);
        Check.due("hearer(0, -1)", x.hearer(0, -1), ToldMeThat.BAD);
        Check.due("hearer(6, 10)", x.hearer(6, 10), ToldMeThat.BAD);
        for (int h = 0; h < 6; h++) {
            Check.due("hearer " + h, x.hearer(h + 1, 9 - h), h);
        }
        Check.due("a seventh", x.hearer(0, 0), ToldMeThat.FULL);
        Check.due("a seventh of no kind", x.hearer(7, 0), ToldMeThat.NONE);
        Check.due("a seventh of a bad v", x.hearer(0, 10), ToldMeThat.BAD);
        Check.due("count(0)", x.count(0), 6);
    }

    private static void of() {
        ToldMeThat x = new ToldMeThat();
        Check.due("of nobody", x.of(0, 0), ToldMeThat.NONE);
        x.hearer(3, 7);
        x.story(10, 3);
        x.story(20, 4);
        Check.due("of(0, 0)", x.of(0, 0), 3);
        Check.due("of(0, 1)", x.of(0, 1), 7);
        Check.due("of(0, 10)", x.of(0, 10), 0);
        Check.due("of(0, 20)", x.of(0, 20), 0);
        x.had(0, 1, 99);
        Check.due("of(0, 11)", x.of(0, 11), 99);
        x.tell(1, 1);
        Check.due("of(0, 11) told once more", x.of(0, 11), 100);
        Check.due("of(0, 21)", x.of(0, 21), 1);
        Check.due("of(0, 31) without a HOUSE", x.of(0, 31), 1000);
        int[] none = {-1, 2, 9, 12, 17, 18, 19, 22, 27, 28, 32, 39, 40, 41, 110,
            Integer.MIN_VALUE, Integer.MAX_VALUE};
        for (int what : none) {
            Check.due("of(0, " + what + ")", x.of(0, what), ToldMeThat.NONE);
        }
        Check.due("of(1, 0)", x.of(1, 0), ToldMeThat.NONE);
        Check.due("of(-1, 0)", x.of(-1, 0), ToldMeThat.NONE);
    }

    /** Of HEARER 1 (KIND 5) and STORY 2 (GOOD 30), had 4 times, on DAY 9: w is 2. */
    private static void ofTellsMoodByEachLetter() {
        String[] right = {"h=1", "h>0", "h<2", "k=5", "k>4", "k<6", "s=2", "s>1", "s<3",
            "g=30", "g>29", "g<31", "t=4", "t>3", "t<5", "w=2", "w>1", "w<3", "g=30"};
        String[] wrong = {"h=0", "h>1", "h<1", "k=2", "k>5", "k<5", "s=1", "s>2", "s<2",
            "g=3", "g>30", "g<30", "t=3", "t>4", "t<4", "w=9", "w>2", "w<2", "g=03"};
        for (int i = 0; i < right.length; i++) {
            Check.due(right[i], moodBy("fun 7 " + right[i]), 1007);
            Check.due(wrong[i], moodBy("fun 7 " + wrong[i]), 1000);
        }
        Check.due("sour", moodBy("sour 07 h=1"), 993);
        Check.due("all together", moodBy("fun 9 h=1;sour 4 s=2;fun 20 h=0;fun 3 g>9"), 1008);
        ToldMeThat x = new ToldMeThat();
        x.hearer(0, 0);
        x.story(5, 5);
        Check.due("t is 99 at most", Check.house(x, "fun 5 t=99;fun 3 t>98"), 0);
        x.had(0, 0, 99);
        x.tell(0, 1);
        x.tell(0, 1);
        Check.due("t is 99 at most", x.of(0, 30), 1008);
        Check.due("but TIMES are more", x.of(0, 10), 101);
    }

    private static int moodBy(String text) {
        ToldMeThat x = new ToldMeThat();
        x.hearer(0, 0);
        x.hearer(5, 3);
        x.story(1, 1);
        x.story(2, 1);
        x.story(30, 1);
        x.had(1, 2, 4);
        x.pass(9);
        Check.due(text, Check.house(x, text), 0);
        return x.of(1, 32);
    }

    private static void at() {
        ToldMeThat x = new ToldMeThat();
        Check.due("at no story", x.at(0, 0), ToldMeThat.NONE);
        x.story(17, 4);
        x.story(18, 5);
        Check.due("at(0, 0)", x.at(0, 0), 17);
        Check.due("at(0, 1)", x.at(0, 1), 4);
        Check.due("at(1, 0)", x.at(1, 0), 18);
        Check.due("at(1, 1)", x.at(1, 1), 5);
        Check.due("at(1, 2)", x.at(1, 2), ToldMeThat.NONE);
        Check.due("at(1, -1)", x.at(1, -1), ToldMeThat.NONE);
        Check.due("at(2, 0)", x.at(2, 0), ToldMeThat.NONE);
        Check.due("at(-1, 0)", x.at(-1, 0), ToldMeThat.NONE);
    }

    private static void good() {
        ToldMeThat x = new ToldMeThat();
        x.story(17, 4);
        Check.due("good(0, 30)", x.good(0, 30), 17);
        Check.due("good(0, 1)", x.good(0, 1), 30);
        Check.due("good(0, 0)", x.good(0, 0), ToldMeThat.BAD);
        Check.due("good(0, 31)", x.good(0, 31), ToldMeThat.BAD);
        Check.due("good(1, 31)", x.good(1, 31), ToldMeThat.NONE);
        Check.due("good(-1, 5)", x.good(-1, 5), ToldMeThat.NONE);
        Check.due("at(0, 0)", x.at(0, 0), 1);
    }

    private static void had() {
        ToldMeThat x = new ToldMeThat();
        x.hearer(0, 0);
        x.story(17, 4);
        Check.due("had(0, 0, 100)", x.had(0, 0, 100), ToldMeThat.BAD);
        Check.due("had(0, 0, -1)", x.had(0, 0, -1), ToldMeThat.BAD);
        Check.due("had(0, 1, 100)", x.had(0, 1, 100), ToldMeThat.NONE);
        Check.due("had(1, 0, 5)", x.had(1, 0, 5), ToldMeThat.NONE);
        Check.due("had(-1, 0, 5)", x.had(-1, 0, 5), ToldMeThat.NONE);
        Check.due("had(0, -1, 5)", x.had(0, -1, 5), ToldMeThat.NONE);
        Check.due("had(0, 0, 99)", x.had(0, 0, 99), 0);
        x.pass(20);
        Check.due("20 days ago is not fewer than 20", x.of(0, 20), 0);
        Check.due("had(0, 0, 3)", x.had(0, 0, 3), 99);
        Check.due("the last time is today", x.of(0, 20), 1);
        x.pass(19);
        Check.due("19 days ago is", x.of(0, 20), 1);
        Check.due("had(0, 0, 0)", x.had(0, 0, 0), 3);
        Check.due("never had", x.of(0, 20), 0);
        Check.due("TIMES 0", x.of(0, 10), 0);
    }

    private static void row() {
        ToldMeThat x = new ToldMeThat();
        x.hearer(3, 0);
        x.hearer(6, 0);
        x.story(10, 1);
        Check.due("row(2, 0, 1)", x.row(2, 0, 1), ToldMeThat.NONE);
        Check.due("row(1, 4, 1)", x.row(1, 4, 1), ToldMeThat.NONE);
        Check.due("row(1, -1, 0)", x.row(1, -1, 0), ToldMeThat.NONE);
        Check.due("row(1, 0, 0)", x.row(1, 0, 0), ToldMeThat.BAD);
        Check.due("row(1, 0, 10)", x.row(1, 0, 10), ToldMeThat.BAD);
        Check.due("row(0, 0, 10)", x.row(0, 0, 10), ToldMeThat.BAD);
        Check.due("row(0, 0, 1)", x.row(0, 0, 1), ToldMeThat.STATE);
        Check.due("row(1, 1, 9)", x.row(1, 1, 9), 1);
        Check.due("row(1, 1, 7)", x.row(1, 1, 7), 9);
        Check.due("row(1, 3, 2)", x.row(1, 3, 2), 1);
        x.had(1, 0, 1);
        // 20 days: on DAY 1 and 5 divided by 7 (2), on DAY 3 and 7 by 2 (10), else whole.
        int[] knows = {1, 1, 1, 1, 1, 0, 1, 1, 1, 0, 1, 0, 1, 0, 1, 0, 1, 0, 1, 0, 0};
        for (int day = 0; day < knows.length; day++) {
            Check.due("TOLD on day " + day, x.of(1, 20), knows[day]);
            x.pass(1);
        }
    }

    private static void feed() {
        ToldMeThat x = new ToldMeThat();
        Check.due("feed(-1)", x.feed(-1), ToldMeThat.BAD);
        Check.due("feed(128)", x.feed(128), ToldMeThat.BAD);
        Check.due("feed(0)", x.feed(0), 1);
        for (int i = 2; i <= 100; i++) {
            Check.due("feed " + i, x.feed(127), i);
        }
        Check.due("feed(102) too much", x.feed(102), ToldMeThat.FULL);
        Check.due("feed(128) too much", x.feed(128), ToldMeThat.BAD);
        Check.due("count(5)", x.count(5), 100);
        Check.due("a text of nothing", x.house(), -10);
        Check.due("it is empty then", x.count(5), 0);
        Check.due("feed(102)", x.feed(102), 1);
    }

    private static void houseHolds() {
        ToldMeThat x = new ToldMeThat();
        x.hearer(0, 0);
        x.story(10, 1);
        for (int i = 0; i < 6; i++) {
            Check.due("house " + i, Check.house(x, "fun " + i + " h=0;days " + (i + 30)), i);
            Check.due("the newest holds", x.of(0, 30), 1000 + i);
            Check.due("its days", x.told(1), 30 + i);
            Check.due("a fault", Check.house(x, "fun 9 h=0;dayz"),
                i < 5 ? -23 : ToldMeThat.FULL);
            Check.due("the one that held holds", x.of(0, 30), 1000 + i);
            Check.due("and its days", x.told(1), 30 + i);
        }
        Check.due("THE TEXT stays", x.count(5), 14);
        Check.due("still", x.house(), ToldMeThat.FULL);
        Check.due("count(2)", x.count(2), 6);
    }

    private static void houseFaults() {
        String[] texts = {"", "x", "f", "fa", "fx", "fan", "funk", "fun", "fun ", "fun x", "fun 1",
            "fun 1;", "fun 1 ", "fun 1 x", "fun 1 h", "fun 1 h1", "fun 1 h=", "fun 1 h=x",
            "fun 1 h=123", "fun 1 h=1 ", "fun 1 h=1&", "fun 1 h=1||", "fun 1 (h=1", "fun 1 h=1)",
            "fun 1 ()", "fun 1 !", "fun 1 h=1;", "fun 1 h=1;;", "fun  1 h=1", "fun 123", "Fun 1",
            "so", "sourly", "sour 12 ", "d", "day 1", "days1", "days 1 ", "days 12;", "days 123",
            "days -1", "face", "face x", "fact 5", "face 5;fun", " fun 1 h=1", "fun 1 h==1",
            "fun 1 h=1&!!", "fun 1 (h=1)(", "fun 1 H=1"};
        int[] faults = {0, 0, 1, 2, 1, 2, 3, 3, 4, 4, 5,
            5, 6, 6, 7, 7, 8, 8,
            10, 9, 10, 10, 10, 9,
            7, 7, 10, 10, 4, 6, 0,
            2, 4, 8, 1, 3, 4, 6, 8, 7,
            5, 4, 5, 3, 10, 0, 8,
            12, 11, 6};
        for (int i = 0; i < texts.length; i++) {
            Check.due("'" + texts[i] + "'", Check.house(new ToldMeThat(), texts[i]),
                -10 - faults[i]);
        }
    }

    private static void houseClausesAndNesting() {
        String ten = "days 1;days 2;days 3;face 4;face 05;days 6;days 7;days 8;days 9;days 10";
        ToldMeThat x = new ToldMeThat();
        Check.due("ten clauses", Check.house(x, ten), 0);
        Check.due("the last days", x.told(1), 10);
        Check.due("the last face", x.told(2), 5);
        Check.due("an eleventh", Check.house(new ToldMeThat(), ten + ";face 1"), -10 - ten.length());
        Check.due("four deep", Check.house(new ToldMeThat(), "fun 1 ((((h=1))))"), 0);
        Check.due("five deep", Check.house(new ToldMeThat(), "fun 1 (((((h=1)))))"), -20);
        Check.due("four nots", Check.house(new ToldMeThat(), "fun 1 !!!!h=1"), 0);
        Check.due("five nots", Check.house(new ToldMeThat(), "fun 1 !!!!!h=1"), -20);
        Check.due("mixed", Check.house(new ToldMeThat(), "fun 1 !(!(h=1|!h=2))"), -10 - 14);
        Check.due("mixed, four", Check.house(new ToldMeThat(), "fun 1 !(!(h=1|h=2))"), 0);
        Check.due("side by side",
            Check.house(new ToldMeThat(), "fun 1 !(!(h=1))&!(!(h=2))|((((h=3))))"), 0);
        Check.due("a ! ends with its part",
            Check.house(new ToldMeThat(), "fun 1 !!!!h=1&!!!!h=2|!!!!h=3"), 0);
        String full = "fun 1 h=1|h=1|h=1|h=1|h=1|h=1|h=1|h=1|h=1|h=1|h=1|h=1|h=1|h=1|h=1|h=1|h=1"
            + "|h=1|h=1|h=1|h=1|h=1|h=01";
        Check.due("its length", full.length(), 98);
        Check.due("a long one", Check.house(new ToldMeThat(), full), 0);
        Check.due("100 bytes that end too early", Check.house(new ToldMeThat(), full + "|h"), -110);
    }

    private static void housePrecedence() {
        // Of HEARER 0 and STORY 0: h=0 and s=0 hold, h=1 and s=1 do not.
        String[] right = {"h=0|h=1&s=1", "h=1&s=1|h=0", "!h=1&s=0", "!(h=1&s=0)", "!h=0|s=0",
            "h=0&(s=1|s=0)", "!!h=0", "!h=1", "h=1|h=1|h=0", "h=0&h=0&s=0", "!(h=1|s=1)&h=0"};
        String[] wrong = {"(h=0|h=1)&s=1", "h=1&(s=1|h=0)", "!h=1&s=1", "!(h=0&s=0)", "!h=0&s=0",
            "!(h=0|s=0)", "h=1&s=0", "!h=0", "h=1|h=1|s=1", "h=0&h=1&s=0", "!(h=0|s=1)|s=1"};
        for (int i = 0; i < right.length; i++) {
            Check.due(right[i], mood(right[i]), 1003);
            Check.due(wrong[i], mood(wrong[i]), 1000);
        }
    }

    private static int mood(String e) {
        ToldMeThat x = new ToldMeThat();
        x.hearer(0, 0);
        x.story(10, 1);
        Check.house(x, "fun 3 " + e);
        return x.of(0, 30);
    }

    private static void told() {
        ToldMeThat x = new ToldMeThat();
        Check.house(x, "face 9");
        Check.due("no days in it", x.told(1), 20);
        Check.due("face", x.told(2), 9);
        Check.house(x, "days 0");
        Check.due("days 0", x.told(1), 0);
        Check.due("no face in it", x.told(2), 5);
        Check.due("a fault", Check.house(x, "days 7;face 8;"), -10 - 14);
        Check.house(x, "fun 1 h=0");
        Check.due("no days of a fault", x.told(1), 20);
        Check.due("no face of a fault", x.told(2), 5);
        x.pass(7);
        Check.due("told(0)", x.told(0), 7);
        Check.due("told(3)", x.told(3), ToldMeThat.NONE);
        Check.due("told(-1)", x.told(-1), ToldMeThat.NONE);
    }

    private static void pass() {
        ToldMeThat x = new ToldMeThat();
        Check.due("pass(-1)", x.pass(-1), ToldMeThat.BAD);
        Check.due("pass(100)", x.pass(100), ToldMeThat.BAD);
        Check.due("pass(0)", x.pass(0), 0);
        for (int i = 1; i <= 101; i++) {
            Check.due("pass(99)", x.pass(99), 99 * i);
        }
        Check.due("pass(1) to 10000", x.pass(1), ToldMeThat.STATE);
        Check.due("pass(100) there", x.pass(100), ToldMeThat.BAD);
        Check.due("pass(0) on 9999", x.pass(0), 9999);
        ToldMeThat y = new ToldMeThat();
        for (int i = 0; i < 100; i++) {
            y.pass(99);
        }
        Check.due("pass(98)", y.pass(98), 9998);
        Check.due("pass(2)", y.pass(2), ToldMeThat.STATE);
        Check.due("pass(1)", y.pass(1), 9999);
    }
}
