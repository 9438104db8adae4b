/** Who KNOWS a STORY and how much it laughs: a method for each sentence that names a boundary. */
public final class BoundaryKnowsLaughsTest {
    private static final int HEARER = 0, POLITE = 1, BORED = 2, FORGETFUL = 3, HELPING = 4,
        CHILDISH = 5, TOLD = 6;

    public static void main(String[] args) {
        knowsIfTimesAreAbove0();
        thatWasFewerDaysAgoThanDays();
        forgetfulTheHalfOfDaysCut();
        childishTwoTimesDays();
        toldDividedByItsRowCut();
        toldByDayModulo4();
        toldHasARowOf1To9();
        daysGoTo9999();
        hadIs0To99AndTheLastTimeToday();
        laughByFaceAtItsEnds();
        laughByVAtItsEnds();
        boredLessTimes();
        laughterIsAheadOfThat();
        timesAreOneMore();
        Check.end("BoundaryKnowsLaughsTest");
    }

    /** On DAY 31 the one of the KIND has had the STORY once; days by a HOUSE, unless below 0. */
    private static ToldMeThat hasHad(int kind, int days) {
        ToldMeThat x = Room.one(kind, 0, 10);
        if (days >= 0) {
            Check.house(x, "days " + days);
        }
        x.pass(31);
        x.had(0, 0, 1);
        return x;
    }

    /** It knows the STORY for just so many days, that of the telling being the first. */
    private static void knowsFor(String who, ToldMeThat x, int days) {
        for (int passed = 0; passed <= days + 4; passed++) {
            Check.due(who + " " + passed + " days behind", x.of(0, 20), passed < days ? 1 : 0);
            Check.due(who + ": fresh", x.fresh(0), passed < days ? 0 : 1);
            Check.due(who + ": would, 1", x.would(0, 1, 1), passed < days ? 1 : 0);
            x.pass(1);
        }
    }

    // "A HEARER KNOWS a STORY, if it has had it (TIMES above 0)".
    private static void knowsIfTimesAreAbove0() {
        for (int kind = HEARER; kind <= TOLD; kind++) {
            ToldMeThat x = Room.one(kind, 0, 10);
            Check.due("TIMES 0 at first", x.of(0, 20), 0);
            x.had(0, 0, 0);
            Check.due("TIMES 0 today", x.of(0, 20), 0);
            x.had(0, 0, 1);
            Check.due("TIMES 1", x.of(0, 20), 1);
            x.had(0, 0, 99);
            Check.due("TIMES 99", x.of(0, 20), 1);
            x.had(0, 0, 0);
            Check.due("TIMES become 0", x.of(0, 20), 0);
            x.tell(0, 1);
            Check.due("TIMES 1 by telling", x.of(0, 20), 1);
        }
    }

    // "and that was fewer DAYS ago than: HEARER, POLITE, BORED, HELPING: days".
    private static void thatWasFewerDaysAgoThanDays() {
        int[] kinds = {HEARER, POLITE, BORED, HELPING};
        int[] days = {0, 1, 2, 20, 99};
        for (int kind : kinds) {
            knowsFor("KIND " + kind + " without a HOUSE", hasHad(kind, -1), 20);
            for (int n : days) {
                knowsFor("KIND " + kind + " by days " + n, hasHad(kind, n), n);
            }
        }
    }

    // "FORGETFUL: the half of days (cut)".
    private static void forgetfulTheHalfOfDaysCut() {
        knowsFor("FORGETFUL without a HOUSE", hasHad(FORGETFUL, -1), 10);
        int[] days = {0, 1, 2, 3, 4, 5, 98, 99};
        int[] halves = {0, 0, 1, 1, 2, 2, 49, 49};
        for (int i = 0; i < days.length; i++) {
            knowsFor("FORGETFUL by days " + days[i], hasHad(FORGETFUL, days[i]), halves[i]);
        }
    }

    // "CHILDISH: 2 times days".
    private static void childishTwoTimesDays() {
        knowsFor("CHILDISH without a HOUSE", hasHad(CHILDISH, -1), 40);
        knowsFor("CHILDISH by days 0", hasHad(CHILDISH, 0), 0);
        knowsFor("CHILDISH by days 1", hasHad(CHILDISH, 1), 2);
        ToldMeThat x = hasHad(CHILDISH, 99);
        x.pass(99);
        x.pass(97);
        knowsFor("CHILDISH by days 99, 196 days on", x, 2);
    }

    // "TOLD: days, divided by its ROW (four numbers 1 .. 9; 1 at first) .. (cut)".
    private static void toldDividedByItsRowCut() {
        knowsFor("TOLD without a HOUSE", hasHad(TOLD, -1), 20);
        knowsFor("TOLD by days 0", hasHad(TOLD, 0), 0);
        for (int n = 1; n <= 9; n++) {
            int[] days = {0, 8, 9, 17, 18, 20, 99};
            for (int by : days) {
                ToldMeThat x = hasHad(TOLD, by);
                for (int part = 0; part < 4; part++) {
                    Check.due("ROW at first", x.row(0, part, n), 1);
                }
                knowsFor("TOLD by " + by + " and ROW " + n, x, by / n);
            }
        }
    }

    // "its ROW .. at DAY modulo 4".
    private static void toldByDayModulo4() {
        for (int part = 0; part < 4; part++) {
            ToldMeThat x = Room.one(TOLD, 0, 10);
            Check.house(x, "days 40");
            x.row(0, part, 9);
            x.had(0, 0, 1);
            // By that part it's 4 days, else 40.
            for (int day = 0; day <= 42; day++) {
                int days = day % 4 == part ? 4 : 40;
                Check.due("part " + part + " on DAY " + day, x.of(0, 20), day < days ? 1 : 0);
                x.pass(1);
            }
        }
        ToldMeThat last = Room.one(TOLD, 0, 10);
        for (int i = 0; i < 101; i++) {
            last.pass(99);
        }
        last.had(0, 0, 1);
        Check.due("on DAY 9999", last.of(0, 20), 1);
        last.row(0, 3, 9);
        Check.house(last, "days 8");
        Check.due("9999 modulo 4 is 3: 8 / 9", last.of(0, 20), 0);
    }

    // "(four numbers 1 .. 9; 1 at first)".
    private static void toldHasARowOf1To9() {
        ToldMeThat x = Room.one(TOLD, 0, 10);
        Check.due("part -1", x.row(0, -1, 5), -1);
        Check.due("part 4", x.row(0, 4, 5), -1);
        for (int part = 0; part < 4; part++) {
            Check.due("becomes 0", x.row(0, part, 0), -2);
            Check.due("becomes 10", x.row(0, part, 10), -2);
            Check.due("1 at first", x.row(0, part, 9), 1);
            Check.due("it was 9", x.row(0, part, 1), 9);
            Check.due("it was 1", x.row(0, part, 2 + part), 1);
        }
        for (int part = 0; part < 4; part++) {
            Check.due("each its own", x.row(0, part, 1), 2 + part);
        }
        ToldMeThat six = Room.of(6, TOLD, 1);
        for (int h = 0; h < 6; h++) {
            Check.due("of HEARER " + h, six.row(h, 3, h + 2), 1);
        }
        for (int h = 0; h < 6; h++) {
            Check.due("of HEARER " + h + " it stays", six.row(h, 3, 1), h + 2);
            Check.due("its first part", six.row(h, 0, 1), 1);
        }
    }

    // "n DAYS (0 .. 99) go: DAY. STATE: it would be above 9999".
    private static void daysGoTo9999() {
        ToldMeThat x = Room.one(HEARER, 0, 10);
        Check.due("0 DAYS", x.pass(0), 0);
        Check.due("-1", x.pass(-1), -2);
        Check.due("100", x.pass(100), -2);
        for (int i = 1; i <= 100; i++) {
            Check.due("99 DAYS", x.pass(99), 99 * i);
        }
        x.had(0, 0, 1);
        Check.due("to 9998", x.pass(98), 9998);
        Check.due("to 10000", x.pass(2), -3);
        Check.due("to 10097", x.pass(99), -3);
        Check.due("DAY is still", x.told(0), 9998);
        Check.due("to 9999", x.pass(1), 9999);
        Check.due("to 10000", x.pass(1), -3);
        Check.due("0 DAYS on 9999", x.pass(0), 9999);
        Check.due("DAY", x.told(0), 9999);
        Check.due("what is asked looks beyond", x.again(0, 1), 0);
        x.had(0, 0, 1);
        Check.due("what is asked looks beyond", x.again(0, 1), 20);
    }

    // "A HEARER has had a STORY n times (0 .. 99), the last time today (0: TIMES become 0)".
    private static void hadIs0To99AndTheLastTimeToday() {
        ToldMeThat x = Room.one(HEARER, 0, 10);
        Check.due("-1", x.had(0, 0, -1), -2);
        Check.due("100", x.had(0, 0, 100), -2);
        Check.due("0", x.had(0, 0, 0), 0);
        Check.due("99", x.had(0, 0, 99), 0);
        Check.due("1", x.had(0, 0, 1), 99);
        x.pass(19);
        Check.due("known on the last day", x.again(0, 1), 1);
        Check.due("99 today", x.had(0, 0, 99), 1);
        Check.due("known from today", x.again(0, 1), 20);
        Check.due("0 today", x.had(0, 0, 0), 99);
        Check.due("TIMES are 0", x.of(0, 10), 0);
        Check.due("and it is new", x.again(0, 1), 0);
        x.had(0, 0, 99);
        x.tell(0, 1);
        Check.due("how many it was, above 99", x.had(0, 0, 5), 100);
        ToldMeThat all = Room.of(6, HEARER, 8);
        for (int h = 0; h < 6; h++) {
            for (int s = 0; s < 8; s++) {
                Check.due("of each HEARER and STORY", all.had(h, s, 8 * h + s + 1), 0);
            }
        }
        for (int h = 0; h < 6; h++) {
            for (int s = 0; s < 8; s++) {
                Check.due("of " + h + " and " + s, all.of(h, 10 + s), 8 * h + s + 1);
            }
        }
    }

    // "face with a minus", "twice face with a minus", at the least and the most of face.
    private static void laughByFaceAtItsEnds() {
        int[] faces = {0, 1, 5, 99};
        for (int face : faces) {
            int[] known = {-face, 0, -2 * face, -face, 9, 10 + 9, -face};
            for (int kind = HEARER; kind <= TOLD; kind++) {
                ToldMeThat x = Room.one(kind, 9, 10);
                if (face != 5) {
                    Check.house(x, "face " + face);
                }
                Check.due("new to " + kind, x.laugh(0, 0), 10);
                x.had(0, 0, 1);
                Check.due("face " + face + ", KIND " + kind, x.laugh(0, 0), known[kind]);
            }
        }
    }

    // "HELPING: .. v, if it KNOWS it. CHILDISH: .. G and v, if it KNOWS it": v is 0 .. 9.
    private static void laughByVAtItsEnds() {
        int[] goods = {1, 30};
        for (int good : goods) {
            for (int v = 0; v <= 9; v += 9) {
                ToldMeThat helping = Room.one(HELPING, v, good);
                ToldMeThat childish = Room.one(CHILDISH, v, good);
                Check.due("new to HELPING", helping.laugh(0, 0), good);
                Check.due("new to CHILDISH", childish.laugh(0, 0), good);
                helping.had(0, 0, 1);
                childish.had(0, 0, 1);
                Check.due("known to HELPING", helping.laugh(0, 0), v);
                Check.due("known to CHILDISH", childish.laugh(0, 0), good + v);
                Check.house(helping, "fun 50 t>0");
                Check.house(childish, "sour 50 t>0");
                Check.due("v has no MOOD", helping.laugh(0, 0), v);
                Check.due("G and v", childish.laugh(0, 0), good - 50 + v);
            }
        }
    }

    // "BORED: G less TIMES", if it does not KNOW it; CHILDISH likewise.
    private static void boredLessTimes() {
        int[] kinds = {BORED, CHILDISH};
        for (int kind : kinds) {
            ToldMeThat x = Room.one(kind, 0, 10);
            Check.house(x, "days 0");
            int[] times = {0, 1, 9, 10, 11, 99};
            for (int n : times) {
                x.had(0, 0, n);
                Check.due("KIND " + kind + ", TIMES " + n, x.laugh(0, 0), 10 - n);
            }
            x.tell(0, 1);
            x.tell(0, 1);
            Check.due("TIMES 101, no 99 at most", x.laugh(0, 0), 10 - 101);
        }
    }

    // "LAUGHTER: LAUGH of all these ahead of that, together."
    private static void laughterIsAheadOfThat() {
        ToldMeThat x = Room.of(6, HEARER, 1);
        Check.due("nobody's", x.tell(0, 0), 0);
        Check.due("would, of nobody", x.would(0, 0, 0), 0);
        Check.due("all six, new", x.would(0, 63, 0), 60);
        Check.due("all six, ahead of it", x.tell(0, 63), 60);
        Check.due("all six, known", x.would(0, 63, 0), -30);
        Check.due("all six, known", x.tell(0, 63), -30);
        Check.due("how many of none", x.would(0, 0, 1), 0);
        Check.due("how many of one", x.would(0, 32, 1), 1);
        Check.due("how many of six", x.would(0, 63, 1), 6);
        ToldMeThat y = Room.of(6, HEARER, 2);
        Check.due("how many know what none has had", y.would(1, 63, 1), 0);
        y.tell(1, 31);
        Check.due("five of six", y.would(1, 63, 1), 5);
        Check.due("who does not: the last", y.fresh(1), 32);
        Check.due("the other STORY is new to all", y.fresh(0), 63);
    }

    // "each of these has it (TIMES 1 more ..; the last time is DAY)".
    private static void timesAreOneMore() {
        ToldMeThat x = Room.of(2, HEARER, 2);
        x.tell(0, 1);
        x.pass(19);
        Check.due("still known", x.again(0, 1), 1);
        x.tell(0, 1);
        Check.due("TIMES", x.of(0, 10), 2);
        Check.due("the last time is DAY", x.again(0, 1), 20);
        Check.due("not to the other", x.of(1, 10), 0);
        Check.due("not the other", x.of(0, 11), 0);
        // 999 at most: no 512 calls come so far, but these come near.
        ToldMeThat y = Room.of(1, HEARER, 1);
        y.had(0, 0, 99);
        for (int i = 100; i < 600; i++) {
            y.tell(0, 1);
        }
        Check.due("TIMES", y.of(0, 10), 599);
    }
}
