/** Part 1 of the document's terms: a method for each sentence that names a boundary. */
public final class BoundaryTermsTest {
    private static final String LONGEST = "fun 99 g>0;fun 99 g>0;fun 99 g>0;fun 99 g>0;fun 99 g>0;"
        + "fun 99 g>0;fun 99 g>0;fun 99 g>0;fun 99 g>00";

    public static void main(String[] args) {
        storiesAre0To7();
        goodIs1To30AndLong1To9();
        hearersAre0To5();
        kindsAre0To6AndV0To9();
        timesAndDayAre0AtFirst();
        aTableIsASetOfHearers();
        theTextHas100BytesAtMost();
        clausesAre1To10();
        numbersHave1Or2Digits();
        oneBlankAheadOfEachPart();
        aTestHasALetterASignANumber();
        lettersAtTheirEnds();
        timesInATestAre99AtMost();
        weekdayIsDayModulo7();
        noneIsWithin4Others();
        theFaultIsTheFirstByteThatFitsNone();
        theFaultIsTheEndIfItEndsTooEarly();
        theNewestOf6HousesHolds();
        daysAndFaceWithoutAndTheLastOnes();
        moodIsAllFunLessAllSour();
        Check.end("BoundaryTermsTest");
    }

    // "STORIES 0 .. 7, as they come": FULL: 8.
    private static void storiesAre0To7() {
        ToldMeThat x = new ToldMeThat();
        x.hearer(0, 0);
        for (int s = 0; s < 8; s++) {
            Check.due("STORY " + s + " ahead of it", x.at(s, 0), -1);
            Check.due("STORY " + s, x.story(s + 11, s + 1), s);
            Check.due("GOOD of STORY " + s, x.at(s, 0), s + 11);
            Check.due("LONG of STORY " + s, x.at(s, 1), s + 1);
            Check.due("STORY " + s + " is told", x.tell(s, 1), s + 11);
        }
        Check.due("a ninth", x.story(1, 1), -4);
        Check.due("STORIES", x.count(1), 8);
        Check.due("STORY 8", x.at(8, 0), -1);
        for (int s = 0; s < 8; s++) {
            Check.due("GOOD is still that of " + s, x.at(s, 0), s + 11);
        }
    }

    // "each GOOD (1 .. 30), LONG (1 .. 9 minutes)".
    private static void goodIs1To30AndLong1To9() {
        ToldMeThat x = new ToldMeThat();
        Check.due("GOOD 0", x.story(0, 5), -2);
        Check.due("GOOD 1", x.story(1, 5), 0);
        Check.due("GOOD 30", x.story(30, 5), 1);
        Check.due("GOOD 31", x.story(31, 5), -2);
        Check.due("LONG 0", x.story(5, 0), -2);
        Check.due("LONG 1", x.story(5, 1), 2);
        Check.due("LONG 9", x.story(5, 9), 3);
        Check.due("LONG 10", x.story(5, 10), -2);
        Check.due("GOOD becomes 0", x.good(0, 0), -2);
        Check.due("GOOD becomes 30", x.good(0, 30), 1);
        Check.due("GOOD becomes 1", x.good(0, 1), 30);
        Check.due("GOOD becomes 31", x.good(0, 31), -2);
        Check.due("GOOD is", x.at(0, 0), 1);
        int[] ends = {1, 30, 5, 5};
        int[] lengths = {5, 5, 1, 9};
        for (int s = 0; s < 4; s++) {
            Check.due("GOOD of " + s, x.at(s, 0), ends[s]);
            Check.due("LONG of " + s, x.at(s, 1), lengths[s]);
        }
    }

    // "HEARERS 0 .. 5, as they come": FULL: 6.
    private static void hearersAre0To5() {
        ToldMeThat x = new ToldMeThat();
        x.story(10, 1);
        for (int h = 0; h < 6; h++) {
            Check.due("HEARER " + h + " ahead of it", x.laugh(h, 0), -10001);
            Check.due("HEARER " + h, x.hearer(6 - h, h), h);
            Check.due("its LAUGH", x.laugh(h, 0), 10);
        }
        Check.due("a seventh", x.hearer(0, 0), -4);
        Check.due("HEARERS", x.count(0), 6);
        Check.due("HEARER 6", x.of(6, 0), -1);
        for (int h = 0; h < 6; h++) {
            Check.due("KIND of " + h, x.of(h, 0), 6 - h);
            Check.due("v of " + h, x.of(h, 1), h);
        }
    }

    // "are of KINDS: 0 HEARER .. 6 TOLD; with a number v (0 .. 9)".
    private static void kindsAre0To6AndV0To9() {
        for (int kind = 0; kind <= 6; kind++) {
            ToldMeThat x = new ToldMeThat();
            Check.due("v -1", x.hearer(kind, -1), -2);
            Check.due("v 0", x.hearer(kind, 0), 0);
            Check.due("v 9", x.hearer(kind, 9), 1);
            Check.due("v 10", x.hearer(kind, 10), -2);
            Check.due("KIND", x.of(0, 0), kind);
            Check.due("KIND", x.of(1, 0), kind);
            Check.due("v", x.of(0, 1), 0);
            Check.due("v", x.of(1, 1), 9);
            Check.due("HEARERS", x.count(0), 2);
        }
        Check.due("KIND -1", new ToldMeThat().hearer(-1, 0), -1);
        Check.due("KIND 7", new ToldMeThat().hearer(7, 0), -1);
    }

    // "TIMES it has had it (0 at first)"; "DAY: 0 at first".
    private static void timesAndDayAre0AtFirst() {
        ToldMeThat x = Room.of(6, 0, 8);
        Check.due("DAY", x.told(0), 0);
        for (int h = 0; h < 6; h++) {
            for (int s = 0; s < 8; s++) {
                Check.due("TIMES of " + h + " and " + s, x.of(h, 10 + s), 0);
            }
        }
        ToldMeThat late = Room.of(1, 0, 1);
        late.tell(0, 1);
        late.hearer(0, 0);
        late.story(5, 5);
        Check.due("TIMES of a late HEARER", late.of(1, 10), 0);
        Check.due("TIMES of a late STORY", late.of(0, 11), 0);
        ToldMeThat anew = Room.of(1, 0, 1);
        anew.image();
        anew.hearer(0, 0);
        anew.story(5, 5);
        anew.tell(0, 3);
        anew.tell(1, 3);
        anew.undo();
        anew.hearer(0, 0);
        anew.story(5, 5);
        Check.due("TIMES of one that comes where another was", anew.of(1, 10), 0);
        Check.due("TIMES of one that comes where another was", anew.of(0, 11), 0);
    }

    // "A TABLE is a set of HEARERS (bits)": the full one of n is taken, the next bit is nobody's.
    private static void aTableIsASetOfHearers() {
        for (int n = 0; n <= 6; n++) {
            ToldMeThat x = Room.of(n, 0, 2);
            int all = (1 << n) - 1;
            Check.due("a bit of nobody", x.tell(0, 1 << n), -10002);
            Check.due("all and a bit of nobody", x.tell(0, (1 << n) | all), -10002);
            Check.due("below 0", x.tell(0, -1), -10002);
            Check.due("nobody", x.tell(0, 0), 0);
            Check.due("all " + n, x.tell(0, all), 10 * n);
            for (int h = 0; h < n; h++) {
                Check.due("HEARER " + h + " alone", x.tell(1, 1 << h), 10);
                for (int other = 0; other < n; other++) {
                    Check.due("has had it: " + other, x.of(other, 11), other <= h ? 1 : 0);
                }
            }
        }
    }

    // "THE TEXT (bytes, 100 at most)".
    private static void theTextHas100BytesAtMost() {
        ToldMeThat x = new ToldMeThat();
        Check.due("at first", x.count(5), 0);
        for (int i = 1; i <= 99; i++) {
            x.feed(i);
        }
        Check.due("99 bytes", x.count(5), 99);
        Check.due("the 100th", x.feed(127), 100);
        Check.due("the 101st", x.feed(1), -4);
        Check.due("100 bytes", x.count(5), 100);
        Check.due("sign 128", x.feed(128), -2);
        ToldMeThat signs = new ToldMeThat();
        Check.due("sign -1", signs.feed(-1), -2);
        Check.due("sign 128", signs.feed(128), -2);
        Check.due("sign 0", signs.feed(0), 1);
        Check.due("sign 127", signs.feed(127), 2);
        String full = "days 3;fun 1 " + "h=1|".repeat(21) + "h=0";
        ToldMeThat y = Room.of(1, 0, 1);
        Check.due("a HOUSE of 100 bytes", full.length(), 100);
        Check.due("is taken", Check.house(y, full), 0);
        Check.due("and its last byte is read", y.of(0, 30), 1001);
        Check.due("THE TEXT is empty then", y.count(5), 0);
        Check.due("a FAULT at the last byte", Check.house(y, full.substring(0, 99) + "|"), -10 - 99);
        Check.due("THE TEXT is empty then", y.count(5), 0);
        Check.due("100 bytes that end too early",
            Check.house(y, "fun 12 h=12|" + "h=1|".repeat(22)), -10 - 100);
        Check.due("THE TEXT is empty then", y.count(5), 0);
        Check.due("which is no HOUSE", y.house(), -10);
    }

    // "CLAUSES, 1 to 10, with ; between".
    private static void clausesAre1To10() {
        Check.due("no CLAUSE", Check.house(new ToldMeThat(), ""), -10);
        String clauses = "days 1";
        for (int n = 1; n <= 10; n++) {
            ToldMeThat x = new ToldMeThat();
            Check.due(n + " CLAUSES", Check.house(x, clauses), 0);
            Check.due("the last one", x.told(1), n);
            Check.due("a ; behind " + n, Check.house(new ToldMeThat(), clauses + ";"),
                -10 - clauses.length() - (n < 10 ? 1 : 0));
            Check.due("a ; ahead of " + n, Check.house(new ToldMeThat(), ";" + clauses), -10);
            Check.due("a blank behind " + n, Check.house(new ToldMeThat(), clauses + " "),
                -10 - clauses.length());
            clauses = clauses + ";days " + (n + 1);
        }
        Check.due("11 CLAUSES", Check.house(new ToldMeThat(), clauses),
            -10 - clauses.length() + ";days 11".length());
        Check.due("two ;", Check.house(new ToldMeThat(), "days 1;;days 2"), -10 - 7);
    }

    // "n 1 or 2 digits": fun n E; sour n E; days n; face n.
    private static void numbersHave1Or2Digits() {
        String[] words = {"fun ", "sour ", "days ", "face "};
        String[] behind = {" h=0", " h=0", "", ""};
        for (int i = 0; i < 4; i++) {
            int at = words[i].length();
            int[] taken = {0, 1, 9, 10, 99};
            for (int n : taken) {
                ToldMeThat x = Room.of(1, 0, 1);
                Check.due(words[i] + n, Check.house(x, words[i] + n + behind[i]), 0);
                long got = i < 2 ? x.of(0, 30) - 1000 : x.told(i - 1);
                Check.due(words[i] + "is", got, i == 1 ? -n : n);
            }
            String[] zeros = {"00", "07"};
            for (int n = 0; n < 2; n++) {
                ToldMeThat x = Room.of(1, 0, 1);
                Check.due(words[i] + zeros[n], Check.house(x, words[i] + zeros[n] + behind[i]), 0);
                long got = i < 2 ? x.of(0, 30) - 1000 : x.told(i - 1);
                Check.due(words[i] + "is", got, (i == 1 ? -7 : 7) * n);
            }
            String[] wrong = {"", "x", "-1", "+1", "/", ":", "a1", "1x", "123", "000"};
            int[] faults = {0, 0, 0, 0, 0, 0, 0, 1, 2, 2};
            for (int w = 0; w < wrong.length; w++) {
                Check.due(words[i] + wrong[w], Check.house(new ToldMeThat(),
                    words[i] + wrong[w] + behind[i]), -10 - at - faults[w]);
            }
        }
    }

    // "one blank ahead of each part behind the word".
    private static void oneBlankAheadOfEachPart() {
        String[] texts = {"fun1 h=0", "fun  1 h=0", "fun 1h=0", "fun 1  h=0", " fun 1 h=0",
            "fun 1 h =0", "fun 1 h= 0", "fun 1 h=0 ", "fun 1 h=0 &h=0", "fun 1 h=0& h=0",
            "fun 1 ( h=0)", "fun 1 (h=0 )", "fun 1 ! h=0", "days5", "days  5", "days 5 ;face 1",
            "days 5; face 1", "face 5 ", "sour 12h=0", "fun\t1 h=0", "days 5 h=0", "face 5 5"};
        int[] faults = {3, 4, 5, 6, 0, 7, 8, 9, 9, 10, 7, 10, 7, 4, 5, 6, 7, 6, 7, 3, 6, 6};
        for (int i = 0; i < texts.length; i++) {
            Check.due("'" + texts[i] + "'", Check.house(new ToldMeThat(), texts[i]), -10 - faults[i]);
        }
    }

    // "a TEST: a letter, < or = or >, a number (1 or 2 digits)".
    private static void aTestHasALetterASignANumber() {
        for (int sign = 0; sign < 128; sign++) {
            boolean begins = "hksgtw!(".indexOf(sign) >= 0;
            Check.due("E begins with " + sign,
                Check.house(new ToldMeThat(), "fun 1 " + (char) sign), -10 - (begins ? 7 : 6));
            boolean compares = "<=>".indexOf(sign) >= 0;
            Check.due("a letter, then " + sign,
                Check.house(new ToldMeThat(), "fun 1 w" + (char) sign), -10 - (compares ? 8 : 7));
            boolean digit = sign >= '0' && sign <= '9';
            Check.due("w>, then " + sign, Check.house(new ToldMeThat(), "fun 1 w>" + (char) sign),
                digit ? 0 : -10 - 8);
            boolean goesOn = digit || "&|;".indexOf(sign) >= 0;
            Check.due("w>1, then " + sign, Check.house(new ToldMeThat(), "fun 1 w>1" + (char) sign),
                digit ? 0 : -10 - (goesOn ? 10 : 9));
            Check.due("w>12, then " + sign,
                Check.house(new ToldMeThat(), "fun 1 w>12" + (char) sign),
                -10 - ("&|;".indexOf(sign) >= 0 ? 11 : 10));
            Check.due("(w>1, then " + sign,
                Check.house(new ToldMeThat(), "fun 1 (w>1" + (char) sign),
                sign == ')' ? 0 : -10 - (digit || sign == '&' || sign == '|' ? 11 : 10));
        }
    }

    private static long moodOf(ToldMeThat x, String test, int hearer, int story) {
        Check.due("HOUSE of " + test, Check.house(x, "fun 1 " + test) >= 0 ? 1 : 0, 1);
        return x.of(hearer, 30 + story) - 1000;
    }

    /** The value of the letter is just this one, by each sign. */
    private static void is(ToldMeThat x, String letter, int value, int hearer, int story) {
        x.image();
        Check.due(letter + "=" + value, moodOf(x, letter + "=" + value, hearer, story), 1);
        Check.due(letter + "<" + value, moodOf(x, letter + "<" + value, hearer, story), 0);
        Check.due(letter + ">" + value, moodOf(x, letter + ">" + value, hearer, story), 0);
        if (value < 99) {
            Check.due(letter + "<" + (value + 1), moodOf(x, letter + "<" + (value + 1), hearer, story), 1);
            Check.due(letter + "=" + (value + 1), moodOf(x, letter + "=" + (value + 1), hearer, story), 0);
        }
        if (value > 0) {
            Check.due(letter + ">" + (value - 1), moodOf(x, letter + ">" + (value - 1), hearer, story), 1);
        }
    }

    // "h the number of the first, k its KIND, s the number of the second, g GOOD, t TIMES".
    private static void lettersAtTheirEnds() {
        for (int end = 0; end < 2; end++) {
            int last = end;
            is(fullAtEnds(), "h", 5 * last, 5 * last, 0);
            is(fullAtEnds(), "k", 6 * last, 5 * last, 0);
            is(fullAtEnds(), "s", 7 * last, 0, 7 * last);
            is(fullAtEnds(), "g", last == 0 ? 1 : 30, 0, 7 * last);
            is(fullAtEnds(), "t", 0, 5 * last, 0);
            is(fullAtEnds(), "t", 98, 5 * last, 7);
        }
    }

    /** HEARER 0 of KIND 0, HEARER 5 of KIND 6; STORY 0 of GOOD 1, STORY 7 of GOOD 30. */
    private static ToldMeThat fullAtEnds() {
        ToldMeThat x = new ToldMeThat();
        for (int h = 0; h < 6; h++) {
            x.hearer(h < 5 ? h : 6, 0);
        }
        for (int s = 0; s < 8; s++) {
            x.story(s < 7 ? 1 : 30, 1);
        }
        x.had(0, 7, 98);
        x.had(5, 7, 98);
        return x;
    }

    // "t TIMES (99 at most)".
    private static void timesInATestAre99AtMost() {
        ToldMeThat x = Room.of(1, 0, 1);
        Check.house(x, "fun 1 t=98;fun 2 t=99;fun 4 t>99;fun 8 t>98");
        x.had(0, 0, 97);
        int[] mood = {0, 1, 10, 10, 10};
        for (int i = 0; i < mood.length; i++) {
            Check.due("TIMES " + (97 + i), x.of(0, 10), 97 + i);
            Check.due("MOOD by TIMES " + (97 + i), x.of(0, 30), 1000 + mood[i]);
            x.tell(0, 1);
        }
    }

    // "w DAY modulo 7".
    private static void weekdayIsDayModulo7() {
        ToldMeThat x = Room.of(1, 0, 1);
        Check.house(x, "fun 1 w=0;fun 2 w=1;fun 4 w=2;fun 8 w=3;fun 16 w=4;fun 32 w=5;fun 64 w=6");
        for (int day = 0; day < 16; day++) {
            Check.due("on DAY " + day, x.of(0, 30), 1000 + (1 << day % 7));
            x.pass(1);
        }
        ToldMeThat last = Room.lastDay();
        Check.due("HOUSE", Check.house(last, ";fun 5 w=3;fun 9 w=4"), 1);
        Check.due("9999 is 7 * 1428 and 3", last.of(0, 30), 1005);
    }

    // "A ( or ! within 4 others is none."
    private static void noneIsWithin4Others() {
        String[] four = {"((((h=0))))", "!!!!h=0", "(!(!h=0))", "!(!(h=0))", "((!!h=0))", "!!((h=0))"};
        String[] five = {"(((((h=0)))))", "!!!!!h=0", "(!(!(h=0)))", "!(!(!h=0))", "((!!!h=0))",
            "!!(((h=0)))", "((((!h=0))))", "!!!!(h=0)"};
        for (String e : four) {
            Check.due(e, Check.house(new ToldMeThat(), "fun 1 " + e), 0);
        }
        for (String e : five) {
            Check.due(e, Check.house(new ToldMeThat(), "fun 1 " + e), -10 - 10);
        }
        // What is closed, or done, encloses no more.
        String[] beside = {"((((h=0))))&((((h=0))))", "((((h=0)))|!!!h=0)", "(((!h=0&!h=0)))",
            "!!!!h=0|!!!!h=0", "(!!!h=0&!!!h=0)", "((((h=0)|(h=0))&(!h=0)))"};
        for (String e : beside) {
            Check.due(e, Check.house(new ToldMeThat(), "fun 1 " + e), 0);
        }
        Check.due("in the next CLAUSE", Check.house(new ToldMeThat(), "fun 1 !!!!h=0;fun 1 !!!!h=0"), 0);
        Check.due("behind a closed one", Check.house(new ToldMeThat(), "fun 1 (((h=0)&((h=0))))"), 0);
        Check.due("a fifth behind a closed one",
            Check.house(new ToldMeThat(), "fun 1 (((h=0)&((!h=0))))"), -10 - 16);
    }

    private static final String WHOLE =
        "fun 3 (h=1|!k<20)&s>3;sour 12 !(g=1&t<2);days 7;face 08;fun 1 w=6";

    // "The FAULT: the place of the first byte with which none begins so".
    private static void theFaultIsTheFirstByteThatFitsNone() {
        Check.due("the whole", Check.house(new ToldMeThat(), WHOLE), 0);
        for (int i = 0; i <= WHOLE.length(); i++) {
            String behind = i < WHOLE.length() ? WHOLE.substring(i + 1) : "";
            String[] others = {"~", "H", "\0", "\u007f"};
            for (String other : others) {
                Check.due("another byte at " + i,
                    Check.house(new ToldMeThat(), WHOLE.substring(0, i) + other + behind), -10 - i);
            }
        }
        // The words: by the first byte that none of them goes on with.
        String[] words = {"gun", "run", "aun", "fin", "fuz", "fan", "fab", "fac1", "facs", "say",
            "sow", "soup", "dan", "dax", "day ", "deys", "suns", "funs", "faces", "dayss"};
        int[] faults = {0, 0, 0, 1, 2, 2, 2, 3, 3, 1, 2, 3, 2, 2, 3, 1, 1, 3, 4, 4};
        for (int i = 0; i < words.length; i++) {
            Check.due(words[i], Check.house(new ToldMeThat(), words[i]), -10 - faults[i]);
            Check.due("behind a clause: " + words[i],
                Check.house(new ToldMeThat(), "face 1;" + words[i]), -17 - faults[i]);
        }
    }

    // "(the end of THE TEXT, if it ends too early)".
    private static void theFaultIsTheEndIfItEndsTooEarly() {
        for (int i = 0; i < WHOLE.length(); i++) {
            String so = WHOLE.substring(0, i);
            Check.due("ends at " + i, Check.house(new ToldMeThat(), so), isHouse(so) ? 0 : -10 - i);
        }
    }

    /** Whether what WHOLE begins with is a HOUSE by itself. */
    private static boolean isHouse(String so) {
        String first = "fun 3 (h=1|!k<20)";
        String second = first + "&s>3;sour 12 !(g=1&t<2)";
        String[] houses = {first, first + "&s>3", second, second + ";days 7",
            second + ";days 7;face 0", second + ";days 7;face 08"};
        for (String house : houses) {
            if (house.equals(so)) {
                return true;
            }
        }
        return false;
    }

    // "The newest HOUSE holds (6 at most); without one there are no CLAUSES."
    private static void theNewestOf6HousesHolds() {
        ToldMeThat x = Room.of(1, 0, 1);
        Check.due("no CLAUSES: MOOD", x.of(0, 30), 1000);
        Check.due("no CLAUSES: LAUGH", x.laugh(0, 0), 10);
        for (int i = 0; i < 6; i++) {
            Check.due("HOUSES", x.count(2), i);
            Check.due("HOUSE " + i, Check.house(x, "fun 1" + i + " h=0"), i);
            Check.due("it holds", x.laugh(0, 0), 20 + i);
        }
        Check.due("a seventh", Check.house(x, "fun 17 h=0"), -4);
        Check.due("THE TEXT stays", x.count(5), 10);
        Check.due("the sixth holds", x.laugh(0, 0), 25);
        Check.due("HOUSES", x.count(2), 6);
        x.image();
        x.undo();
        Check.due("still a seventh", x.house(), -4);
        ToldMeThat faults = Room.of(1, 0, 1);
        for (int i = 0; i < 7; i++) {
            Check.due("a FAULT is no HOUSE", Check.house(faults, "fun 5 h"), -17);
        }
        Check.due("HOUSES", faults.count(2), 0);
        Check.due("no CLAUSES yet", faults.of(0, 30), 1000);
        Check.due("a FAULT behind CLAUSES", Check.house(faults, "fun 9 h=0;days 3;face 2;"), -34);
        Check.due("no CLAUSES of a FAULT", faults.of(0, 30), 1000);
        Check.due("no days of a FAULT", faults.told(1), 20);
        Check.due("no face of a FAULT", faults.told(2), 5);
        Check.due("HOUSE 0", Check.house(faults, "fun 1 h=0"), 0);
        Check.due("of the FAULT ahead of it nothing", faults.of(0, 30), 1001);
        Check.due("not its days", faults.told(1), 20);
        Check.due("not its face", faults.told(2), 5);
        Check.due("a FAULT", Check.house(faults, "fun 2 h=0;days 3;face 2;"), -34);
        Check.due("HOUSE 0 holds", faults.of(0, 30), 1001);
        Check.due("by no days", faults.told(1), 20);
    }

    // "days (20 without), face (5 without): the last one's n."
    private static void daysAndFaceWithoutAndTheLastOnes() {
        String[] texts = {"fun 1 h=0", "days 0", "face 0", "days 99;face 99", "face 6;days 21",
            "days 1;days 2;days 30", "face 9;face 8;fun 1 h=0;face 7", "days 30;days 0",
            "face 30;face 0"};
        int[] days = {20, 0, 20, 99, 21, 30, 20, 0, 20};
        int[] faces = {5, 5, 0, 99, 6, 5, 7, 5, 0};
        for (int i = 0; i < texts.length; i++) {
            ToldMeThat x = new ToldMeThat();
            Check.due("days without a HOUSE", x.told(1), 20);
            Check.due("face without a HOUSE", x.told(2), 5);
            Check.due(texts[i], Check.house(x, texts[i]), 0);
            Check.due(texts[i] + ": days", x.told(1), days[i]);
            Check.due(texts[i] + ": face", x.told(2), faces[i]);
            Check.house(x, "sour 2 h=9");
            Check.due("days without again", x.told(1), 20);
            Check.due("face without again", x.told(2), 5);
        }
    }

    // "MOOD: the n of all fun whose E holds, less those of all sour, together"; of(): and 1000.
    private static void moodIsAllFunLessAllSour() {
        ToldMeThat x = Room.of(1, 0, 1);
        Check.due("its length", LONGEST.length(), 99);
        Check.due("nine of 99", Check.house(x, LONGEST), 0);
        Check.due("most MOOD", x.of(0, 30), 1000 + 9 * 99);
        Check.due("most LAUGH", x.laugh(0, 0), 10 + 9 * 99);
        String sour = "sour 99 g>0;".repeat(7) + "sour 99 g>0";
        Check.due("eight of 99", Check.house(x, sour), 1);
        Check.due("least MOOD", x.of(0, 30), 1000 - 8 * 99);
        Check.due("least LAUGH", x.laugh(0, 0), 10 - 8 * 99);
        Check.due("none holds", Check.house(x, "fun 9 g=0;sour 8 g=0"), 2);
        Check.due("MOOD", x.of(0, 30), 1000);
        Check.due("fun and sour alike", Check.house(x, "fun 9 g>0;sour 9 g>0"), 3);
        Check.due("MOOD", x.of(0, 30), 1000);
    }
}
