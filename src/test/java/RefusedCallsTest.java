/**
 * What each promise refuses: the first values beyond each end, which refusal goes ahead of which,
 * and that nothing has changed behind any. -1 is NONE, -2 BAD, -3 STATE, -4 FULL.
 */
public final class RefusedCallsTest {
    private static final int MIN = Integer.MIN_VALUE, MAX = Integer.MAX_VALUE;
    private static final int NOTHING = -11, CAST = -12, PLACE = -13, SIZE = -14;
    private static final long NO = Long.MIN_VALUE;

    public static void main(String[] args) {
        storiesAndHearers();
        ofAndAt();
        goodHadRow();
        textsAndHouses();
        toldAndPass();
        tellAndLaugh();
        wouldBestFreshAgain();
        eveningCoffee();
        keepAndSuppers();
        seatsAndSpared();
        seeAndGuess();
        oddsMeanBook();
        judgeAndUndo();
        actAndTaken();
        tapeAndItem();
        readAndShift();
        Check.end("RefusedCallsTest");
    }

    private static void some(String call, Room.Call made, long want) {
        Check.leaves("some: " + call, Room::some, made, want);
    }

    private static void full(String call, Room.Call made, long want) {
        Check.leaves("full: " + call, Room::full, made, want);
    }

    private static void empty(String call, Room.Call made, long want) {
        Check.leaves("empty: " + call, Room::empty, made, want);
    }

    private static void storiesAndHearers() {
        int[] notGood = {0, 31, -1, MIN, MAX};
        int[] notLong = {0, 10, -1, MIN, MAX};
        for (int n : notGood) {
            some("story: good " + n, x -> x.story(n, 5), -2);
            full("story: BAD ahead of FULL, good " + n, x -> x.story(n, 5), -2);
        }
        for (int n : notLong) {
            some("story: minutes " + n, x -> x.story(5, n), -2);
            full("story: BAD ahead of FULL, minutes " + n, x -> x.story(5, n), -2);
        }
        full("story: a ninth", x -> x.story(1, 1), -4);
        full("story: a ninth", x -> x.story(30, 9), -4);
        int[] notKinds = {-1, 7, MIN, MAX};
        int[] notV = {-1, 10, MIN, MAX};
        for (int n : notKinds) {
            some("hearer: kind " + n, x -> x.hearer(n, 5), -1);
            some("hearer: NONE ahead of BAD, kind " + n, x -> x.hearer(n, 10), -1);
            full("hearer: NONE ahead of FULL, kind " + n, x -> x.hearer(n, 5), -1);
        }
        for (int n : notV) {
            some("hearer: v " + n, x -> x.hearer(5, n), -2);
            full("hearer: BAD ahead of FULL, v " + n, x -> x.hearer(5, n), -2);
        }
        full("hearer: a seventh", x -> x.hearer(0, 0), -4);
        full("hearer: a seventh", x -> x.hearer(6, 9), -4);
    }

    private static void ofAndAt() {
        int[] nobodyOfThree = {-1, 3, 5, 6, MIN, MAX};
        for (int h : nobodyOfThree) {
            some("of: hearer " + h, x -> x.of(h, 0), -1);
            some("of: hearer " + h, x -> x.of(h, 10), -1);
        }
        full("of: hearer 6", x -> x.of(6, 0), -1);
        empty("of: hearer 0", x -> x.of(0, 0), -1);
        int[] noneOfThree = {-1, 2, 9, 13, 17, 18, 19, 23, 27, 28, 29, 33, 37, 38, 39, 40, 110, MIN, MAX};
        for (int what : noneOfThree) {
            some("of: what " + what, x -> x.of(2, what), -1);
        }
        int[] noneOfEight = {-1, 2, 9, 18, 19, 28, 29, 38, 39, 40, 47, 110, MIN, MAX};
        for (int what : noneOfEight) {
            full("of: what " + what, x -> x.of(5, what), -1);
        }
        Room.Plan noStories = () -> Room.of(1, 0, 0);
        for (int what = 10; what <= 40; what += 10) {
            int first = what;
            Check.leaves("of: no STORIES, what " + what, noStories, x -> x.of(0, first), -1);
        }
        int[] noStoryOfThree = {-1, 3, 7, 8, MIN, MAX};
        for (int s : noStoryOfThree) {
            some("at: story " + s, x -> x.at(s, 0), -1);
        }
        full("at: story 8", x -> x.at(8, 0), -1);
        empty("at: story 0", x -> x.at(0, 0), -1);
        int[] notAsked = {-1, 2, MIN, MAX};
        for (int what : notAsked) {
            some("at: what " + what, x -> x.at(2, what), -1);
        }
    }

    private static void goodHadRow() {
        int[] notThere = {-1, 3, MIN, MAX};
        for (int n : notThere) {
            some("good: story " + n, x -> x.good(n, 5), -1);
            some("good: NONE ahead of BAD, story " + n, x -> x.good(n, 0), -1);
            some("had: hearer " + n, x -> x.had(n, 0, 5), -1);
            some("had: story " + n, x -> x.had(0, n, 5), -1);
            some("had: NONE ahead of BAD, hearer " + n, x -> x.had(n, 0, 100), -1);
            some("had: NONE ahead of BAD, story " + n, x -> x.had(0, n, -1), -1);
            some("row: hearer " + n, x -> x.row(n, 0, 5), -1);
            some("row: NONE ahead of BAD, hearer " + n, x -> x.row(n, 0, 0), -1);
        }
        int[] notGood = {0, 31, -1, MIN, MAX};
        for (int n : notGood) {
            some("good: n " + n, x -> x.good(1, n), -2);
        }
        int[] notTimes = {-1, 100, MIN, MAX};
        for (int n : notTimes) {
            some("had: n " + n, x -> x.had(0, 1, n), -2);
        }
        int[] notParts = {-1, 4, MIN, MAX};
        for (int n : notParts) {
            some("row: part " + n, x -> x.row(2, n, 5), -1);
            some("row: NONE ahead of BAD, part " + n, x -> x.row(2, n, 10), -1);
            some("row: NONE ahead of STATE, part " + n, x -> x.row(0, n, 5), -1);
        }
        int[] notRow = {0, 10, -1, MIN, MAX};
        for (int n : notRow) {
            some("row: n " + n, x -> x.row(2, 1, n), -2);
            some("row: BAD ahead of STATE, n " + n, x -> x.row(0, 1, n), -2);
        }
        for (int h = 0; h < 5; h++) {
            int other = h;
            full("row: of KIND " + (h + 1), x -> x.row(other, 0, 5), -3);
        }
        some("row: of KIND 0", x -> x.row(0, 3, 1), -3);
    }

    private static void textsAndHouses() {
        int[] notSigns = {-1, 128, 255, 256, MIN, MAX};
        for (int n : notSigns) {
            some("feed: " + n, x -> x.feed(n), -2);
            Check.leaves("feed: BAD ahead of FULL, " + n, Room::fullText, x -> x.feed(n), -2);
        }
        Check.leaves("feed: a byte beyond 100", Room::fullText, x -> x.feed('1'), -4);
        Check.leaves("feed: a byte beyond 100", Room::fullText, x -> x.feed(0), -4);
        full("house: a seventh (THE TEXT stays)", x -> x.house(), -4);
        Room.Plan faultyText = () -> {
            ToldMeThat x = Room.full();
            x.feed('?');
            return x;
        };
        Check.leaves("house: FULL ahead of the FAULT", faultyText, x -> x.house(), -4);
        Room.Plan textGone = () -> {
            ToldMeThat x = Room.some();
            x.house();
            return x;
        };
        // The FAULT takes THE TEXT, and nothing else; so it's against a room whose TEXT is empty.
        Check.leaves("house: a FAULT (the one that held holds)", textGone,
            x -> Check.house(x, "days 7;face 9;"), -10 - 14);
        Check.leaves("house: the FAULT at the first byte", textGone,
            x -> Check.house(x, "!"), -10);
        Check.leaves("house: THE TEXT ends too early at once", textGone, x -> x.house(), -10);
    }

    private static void toldAndPass() {
        int[] notAsked = {-1, 3, MIN, MAX};
        for (int what : notAsked) {
            some("told: " + what, x -> x.told(what), -1);
        }
        int[] notDays = {-1, 100, MIN, MAX};
        for (int n : notDays) {
            some("pass: " + n, x -> x.pass(n), -2);
            Check.leaves("pass: BAD ahead of STATE, " + n, Room::lastDay, x -> x.pass(n), -2);
        }
        Check.leaves("pass: DAY 10000", Room::lastDay, x -> x.pass(1), -3);
        Check.leaves("pass: DAY 10098", Room::lastDay, x -> x.pass(99), -3);
    }

    private static void tellAndLaugh() {
        int[] notThere = {-1, 3, 8, MIN, MAX};
        int[] notTables = {-1, 8, 9, 15, 64, MIN, MAX};
        for (int n : notThere) {
            some("tell: story " + n, x -> x.tell(n, 7), -10001);
            some("tell: NONE ahead of BAD, story " + n, x -> x.tell(n, 8), -10001);
            some("laugh: hearer " + n, x -> x.laugh(n, 0), -10001);
            some("laugh: story " + n, x -> x.laugh(0, n), -10001);
        }
        for (int n : notTables) {
            some("tell: table " + n, x -> x.tell(1, n), -10002);
        }
        full("tell: table 64", x -> x.tell(7, 64), -10002);
        full("tell: table 127", x -> x.tell(7, 127), -10002);
        full("laugh: hearer 6", x -> x.laugh(6, 7), -10001);
        full("laugh: story 8", x -> x.laugh(5, 8), -10001);
        Check.leaves("tell: a bit of nobody, nobody being there", () -> Room.of(0, 0, 1),
            x -> x.tell(0, 1), -10002);
    }

    private static void wouldBestFreshAgain() {
        int[] notThere = {-1, 3, 8, MIN, MAX};
        int[] notTables = {-1, 8, 15, 64, MIN, MAX};
        int[] notAsked = {-1, 2, MIN, MAX};
        for (int n : notThere) {
            some("would: story " + n, x -> x.would(n, 7, 0), -10001);
            some("would: NONE ahead of BAD, story " + n, x -> x.would(n, 8, 1), -10001);
            some("fresh: story " + n, x -> x.fresh(n), -1);
            some("again: story " + n, x -> x.again(n, 7), -1);
            some("again: NONE ahead of BAD, story " + n, x -> x.again(n, 8), -1);
        }
        for (int n : notAsked) {
            some("would: what " + n, x -> x.would(0, 7, n), -10001);
            some("would: NONE ahead of BAD, what " + n, x -> x.would(0, 8, n), -10001);
            some("best: what " + n, x -> x.best(7, n), -10001);
            some("best: NONE ahead of BAD, what " + n, x -> x.best(8, n), -10001);
            empty("best: NONE ahead of no STORIES, what " + n, x -> x.best(0, n), -10001);
        }
        for (int n : notTables) {
            some("would: table " + n, x -> x.would(0, n, 0), -10002);
            some("would: table " + n, x -> x.would(0, n, 1), -10002);
            some("best: table " + n, x -> x.best(n, 0), -10002);
            some("best: table " + n, x -> x.best(n, 1), -10002);
            some("again: table " + n, x -> x.again(0, n), -2);
        }
        empty("best: BAD ahead of no STORIES", x -> x.best(1, 0), -10002);
        empty("best: no STORIES", x -> x.best(0, 0), -10005);
        empty("best: no STORIES", x -> x.best(0, 1), -10005);
        full("would: table 64", x -> x.would(7, 64, 0), -10002);
        full("best: table 64", x -> x.best(64, 0), -10002);
        full("again: table 64", x -> x.again(7, 64), -2);
        full("fresh: story 8", x -> x.fresh(8), -1);
    }

    private static void eveningCoffee() {
        int[] notAsked = {-1, 2, MIN, MAX};
        int[] notTables = {-1, 8, 15, 64, MIN, MAX};
        int[] notMinutes = {0, 41, -1, MIN, MAX};
        for (int n : notAsked) {
            some("evening: what " + n, x -> x.evening(7, 20, n), -10001);
            some("evening: NONE ahead of BAD, what " + n, x -> x.evening(8, 20, n), -10001);
            some("evening: NONE ahead of BAD, what " + n, x -> x.evening(7, 0, n), -10001);
            some("coffee: what " + n, x -> x.coffee(7, n), -10001);
            some("coffee: NONE ahead of BAD, what " + n, x -> x.coffee(8, n), -10001);
        }
        for (int n : notTables) {
            some("evening: table " + n, x -> x.evening(n, 20, 0), -10002);
            some("coffee: table " + n, x -> x.coffee(n, 0), -10002);
            some("coffee: table " + n, x -> x.coffee(n, 1), -10002);
        }
        for (int n : notMinutes) {
            some("evening: m " + n, x -> x.evening(7, n, 0), -10002);
            some("evening: m " + n, x -> x.evening(7, n, 1), -10002);
        }
        empty("evening: table 1 of nobody", x -> x.evening(1, 20, 0), -10002);
        empty("evening: m 41 without STORIES", x -> x.evening(0, 41, 0), -10002);
        empty("coffee: table 1 of nobody", x -> x.coffee(1, 0), -10002);
    }

    private static void keepAndSuppers() {
        int[] notAsked = {-1, 2, MIN, MAX};
        int[] notK = {-2, 3, MIN, MAX};
        int[] notTables = {-1, 8, 15, 64, MIN, MAX};
        int[] notDays = {0, -1, 61, MIN, MAX};
        Room.Plan oneStory = () -> Room.of(2, 0, 1);
        for (int n : notAsked) {
            some("keep: what " + n, x -> x.keep(1, 2, 3, n), -10001);
            some("keep: NONE ahead of BAD, what " + n, x -> x.keep(8, 8, 0, n), -10001);
            empty("keep: NONE ahead of too few STORIES", x -> x.keep(0, 0, 1, n), -10001);
        }
        for (int n : notK) {
            some("suppers: k " + n, x -> x.suppers(7, 2, 3, n), -10001);
            some("suppers: NONE ahead of BAD, k " + n, x -> x.suppers(8, 0, 0, n), -10001);
            empty("suppers: NONE ahead of no STORIES", x -> x.suppers(0, 2, 3, n), -10001);
        }
        for (int n : notTables) {
            some("keep: table " + n, x -> x.keep(n, 1, 3, 0), -10002);
            some("keep: other " + n, x -> x.keep(1, n, 3, 1), -10002);
            some("suppers: table " + n, x -> x.suppers(n, 2, 3, 0), -10002);
            some("suppers: BAD ahead of fewer", x -> x.suppers(n, 2, 3, 2), -10002);
        }
        for (int n : notDays) {
            some("keep: n " + n, x -> x.keep(1, 2, n, 0), -10002);
            Check.leaves("keep: BAD ahead of too few", oneStory, x -> x.keep(1, 2, n, 0), -10002);
        }
        int[] notRows = {0, 4, -1, MIN, MAX};
        int[] notD = {0, 31, -1, MIN, MAX};
        for (int n : notRows) {
            some("suppers: n " + n, x -> x.suppers(7, n, 3, -1), -10002);
            empty("suppers: BAD ahead of no STORIES", x -> x.suppers(0, n, 3, 0), -10002);
        }
        for (int n : notD) {
            some("suppers: d " + n, x -> x.suppers(7, 2, n, -1), -10002);
            some("suppers: BAD ahead of fewer, d " + n, x -> x.suppers(7, 1, n, 2), -10002);
        }
        empty("keep: no STORIES", x -> x.keep(0, 0, 60, 0), -10005);
        Check.leaves("keep: one STORY", oneStory, x -> x.keep(1, 2, 1, 0), -10005);
        Check.leaves("keep: one STORY", oneStory, x -> x.keep(3, 3, 60, 1), -10005);
        empty("suppers: no STORIES", x -> x.suppers(0, 3, 30, -1), -10005);
        empty("suppers: no STORIES", x -> x.suppers(0, 3, 30, 2), -10005);
        some("suppers: the second of one", x -> x.suppers(7, 1, 3, 1), -10005);
        some("suppers: the third of one", x -> x.suppers(7, 1, 3, 2), -10005);
        some("suppers: the third of two", x -> x.suppers(7, 2, 3, 2), -10005);
    }

    private static void seatsAndSpared() {
        int[] notThere = {-1, 3, 8, MIN, MAX};
        int[] notK = {-2, 6, MIN, MAX};
        for (int n : notThere) {
            some("seats: story " + n, x -> x.seats(n, 0), -1);
            some("seats: NONE ahead of fewer, story " + n, x -> x.seats(n, 5), -1);
            some("spared: hearer " + n, x -> x.spared(n, 1), -10001);
            some("spared: NONE ahead of BAD, hearer " + n, x -> x.spared(n, 9), -10001);
            some("spared: NONE ahead of fewer, hearer " + n, x -> x.spared(n, 8), -10001);
        }
        for (int k : notK) {
            some("seats: k " + k, x -> x.seats(0, k), -1);
            full("seats: k " + k, x -> x.seats(0, k), -1);
        }
        for (int k = 3; k < 6; k++) {
            int beyond = k;
            some("seats: fewer, k " + k, x -> x.seats(0, beyond), -5);
        }
        Check.leaves("seats: nobody", () -> Room.of(0, 0, 1), x -> x.seats(0, 0), -5);
        int[] notN = {-1, 9, MIN, MAX};
        for (int n : notN) {
            some("spared: n " + n, x -> x.spared(0, n), -10002);
            full("spared: n " + n, x -> x.spared(0, n), -10002);
        }
        for (int n = 4; n <= 8; n++) {
            int beyond = n;
            some("spared: fewer STORIES, n " + n, x -> x.spared(0, beyond), -10005);
        }
        Check.leaves("spared: no STORIES", () -> Room.of(1, 0, 0), x -> x.spared(0, 1), -10005);
    }

    private static void seeAndGuess() {
        int[] notThere = {-2, 3, 8, MIN, MAX};
        int[] notSets = {-1, 8, 15, 64, MIN, MAX};
        for (int n : notThere) {
            some("see: story " + n, x -> x.see(n, 1), -1);
            some("see: NONE ahead of BAD, story " + n, x -> x.see(n, 8), -1);
        }
        for (int n : notSets) {
            some("see: set " + n, x -> x.see(2, n), -2);
        }
        full("see: NONE ahead of FULL", x -> x.see(8, 1), -1);
        full("see: BAD ahead of FULL", x -> x.see(7, 64), -2);
        full("see: a seventh", x -> x.see(7, 63), -4);
        full("see: a seventh of nobody", x -> x.see(0, 0), -4);
        int[] nobody = {-1, 3, 6, MIN, MAX};
        for (int h : nobody) {
            some("guess: hearer " + h, x -> x.guess(h), -1);
        }
        full("guess: hearer 6", x -> x.guess(6), -1);
        empty("guess: hearer 0", x -> x.guess(0), -1);
    }

    private static void oddsMeanBook() {
        int[] notThere = {-1, 3, 8, MIN, MAX};
        int[] notParts = {-1, 2, MIN, MAX};
        int[] notTables = {-1, 8, 15, 64, MIN, MAX};
        for (int n : notThere) {
            some("odds: story " + n, x -> x.odds(n, 0), NO);
        }
        for (int n : notParts) {
            some("odds: part " + n, x -> x.odds(0, n), NO);
            some("mean: part " + n, x -> x.mean(7, n), NO);
        }
        for (int n : notTables) {
            some("mean: bits of nobody, " + n, x -> x.mean(n, 0), NO);
            some("mean: bits of nobody, " + n, x -> x.mean(n, 1), NO);
        }
        full("odds: story 8", x -> x.odds(8, 1), NO);
        full("mean: table 64", x -> x.mean(64, 1), NO);
        empty("odds: no STORIES", x -> x.odds(0, 0), NO);
        empty("mean: no STORIES", x -> x.mean(0, 0), NO);
        empty("mean: no STORIES", x -> x.mean(0, 1), NO);
        int[] notInBooks = {-2, 3, 8, MIN, MAX};
        for (int n : notInBooks) {
            some("book: story " + n, x -> x.book(n), -1);
        }
        full("book: NONE ahead of FULL", x -> x.book(8), -1);
        full("book: NONE ahead of FULL", x -> x.book(-2), -1);
        full("book: an eleventh", x -> x.book(7), -4);
        full("book: an eleventh", x -> x.book(0), -4);
    }

    private static void judgeAndUndo() {
        int[] notTapes = {-1, 6, MIN, MAX};
        for (int n : notTapes) {
            some("judge: tape " + n, x -> x.judge(n, 0), -1);
            empty("judge: NONE ahead of no STORIES, tape " + n, x -> x.judge(n, 0), -1);
        }
        some("judge: bytes", x -> x.judge(2, 0), CAST);
        some("judge: CAST ahead of a place below 0", x -> x.judge(2, -1), CAST);
        full("judge: longs", x -> x.judge(5, 0), CAST);
        some("judge: a place below 0", x -> x.judge(0, -1), 100);
        some("judge: a place far beyond", x -> x.judge(0, MAX), 100);
        empty("undo: no IMAGE", x -> x.undo(), -3);
        Check.leaves("undo: no IMAGE", () -> Room.of(6, 3, 8), x -> x.undo(), -3);
    }

    private static void actAndTaken() {
        int[] nobody = {-1, 3, 6, MIN, MAX};
        int[] notActs = {-1, 3, MIN, MAX};
        // No TRACE then: that is all that such an act changes.
        Room.Plan noTrace = () -> {
            ToldMeThat x = Room.some();
            x.act(5, 5, 5);
            return x;
        };
        for (int n : nobody) {
            Check.leaves("act: hearer " + n, noTrace, x -> x.act(n, 0, 5), 0);
            some("taken: hearer " + n, x -> x.taken(n, 0), NOTHING);
            some("taken: BAD ahead of NOTHING, hearer " + n, x -> x.taken(n, 7), -2);
        }
        for (int n : notActs) {
            Check.leaves("act: act " + n, noTrace, x -> x.act(0, n, 5), 0);
        }
        ToldMeThat ran = Room.some();
        Check.due("act: a TRACE ahead of it", ran.trace(0), 70);
        Check.due("act: of nobody", ran.act(3, 0, 1), 0);
        Check.due("act: no TRACE then", ran.trace(0), -1);
        Check.due("act: none ran", ran.count(6), 0);
        int[] notKinds = {-1, 7, MIN, MAX};
        for (int n : notKinds) {
            some("taken: k " + n, x -> x.taken(0, n), -2);
            some("count: " + n, x -> x.count(n), -2);
        }
        some("taken: CAST", x -> x.taken(0, 3), CAST);
        some("taken: CAST", x -> x.taken(1, 6), CAST);
        some("taken: CAST", x -> x.taken(2, 1), CAST);
        empty("taken: HEARER 0 of nobody", x -> x.taken(0, 0), NOTHING);
        int[] notTraced = {-1, 5, 20, MIN, MAX};
        for (int n : notTraced) {
            some("trace: " + n, x -> x.trace(n), -1);
        }
        some("trace: the last one", x -> x.trace(4), 10);
    }

    private static void tapeAndItem() {
        int[] notTapes = {-1, 6, MIN, MAX};
        for (int n : notTapes) {
            some("tape: " + n, x -> x.tape(n, 0, 1), -1);
            some("tape: NONE ahead of BAD, " + n, x -> x.tape(n, 5, 61), -1);
            some("tape: NONE ahead of SIZE, " + n, x -> x.tape(n, 0, -1), -1);
            some("item: tape " + n, x -> x.item(n, 0, 1), -1);
            some("item: NONE ahead of PLACE, tape " + n, x -> x.item(n, -1, 1), -1);
        }
        int[] notSorts = {-2, 5, MIN, MAX};
        for (int n : notSorts) {
            some("tape: sort " + n, x -> x.tape(0, n, 3), -2);
            some("tape: BAD ahead of SIZE, sort " + n, x -> x.tape(0, n, -1), -2);
        }
        for (int sort = 0; sort < 5; sort++) {
            int any = sort;
            some("tape: n 61 of sort " + sort, x -> x.tape(0, any, 61), -2);
            some("tape: n MAX of sort " + sort, x -> x.tape(0, any, MAX), -2);
            some("tape: n -1 of sort " + sort, x -> x.tape(0, any, -1), SIZE);
            some("tape: n MIN of sort " + sort, x -> x.tape(0, any, MIN), SIZE);
        }
        for (int t = 4; t < 6; t++) {
            int nothing = t;
            some("item: NOTHING in " + t, x -> x.item(nothing, 0, 1), NOTHING);
            some("item: NOTHING ahead of PLACE", x -> x.item(nothing, -1, 1), NOTHING);
        }
        int[] notPlaces = {-1, 3, 60, MIN, MAX};
        for (int n : notPlaces) {
            some("item: place " + n, x -> x.item(0, n, 1), PLACE);
            some("item: place " + n, x -> x.item(2, n, 1), PLACE);
        }
        some("item: a row of none", x -> x.item(3, 0, 1), PLACE);
        some("item: beyond a row of two", x -> x.item(1, 2, 1), PLACE);
    }

    private static void readAndShift() {
        int[] notTapes = {-1, 6, MIN, MAX};
        int[] notPlaces = {-1, 3, 60, MIN, MAX};
        for (int n : notTapes) {
            some("read: tape " + n, x -> x.read(n, 0), NO);
            some("shift: tape " + n, x -> x.shift(n, 0, 0, 0, 1), -1);
            some("shift: other " + n, x -> x.shift(0, 0, n, 0, 1), -1);
            some("shift: NONE ahead of NOTHING", x -> x.shift(4, 0, n, 0, 1), -1);
            some("shift: NONE ahead of PLACE", x -> x.shift(n, 0, 0, 0, -1), -1);
        }
        for (int n : notPlaces) {
            some("read: place " + n, x -> x.read(0, n), NO);
        }
        some("read: NOTHING there", x -> x.read(4, 0), NO);
        some("read: a row of none", x -> x.read(3, 0), NO);
        some("shift: from NOTHING", x -> x.shift(4, 0, 0, 0, 0), NOTHING);
        some("shift: to NOTHING", x -> x.shift(0, 0, 5, 0, 0), NOTHING);
        some("shift: NOTHING ahead of PLACE", x -> x.shift(4, -1, 0, 0, 0), NOTHING);
        some("shift: ints to bytes", x -> x.shift(0, 0, 2, 0, 1), CAST);
        some("shift: bytes to ints", x -> x.shift(2, 0, 0, 0, 0), CAST);
        some("shift: CAST ahead of PLACE", x -> x.shift(0, 0, 2, 0, -1), CAST);
        // 0 is a row of three, 1 of two, 3 of none.
        int[][] beyond = {{-1, 0, 1}, {0, -1, 1}, {0, 0, -1}, {0, 0, 3}, {2, 0, 2}, {0, 1, 2},
            {3, 0, 1}, {0, 2, 1}, {4, 0, 0}, {0, 3, 0}, {MAX, 0, 1}, {0, MAX, 1}, {1, 1, MAX},
            {MIN, 0, 0}, {0, MIN, 0}, {0, 0, MIN}, {MAX, MAX, MAX}};
        for (int[] b : beyond) {
            some("shift: from " + b[0] + " to " + b[1] + ", " + b[2],
                x -> x.shift(0, b[0], 1, b[1], b[2]), PLACE);
        }
        some("shift: to a row of none", x -> x.shift(0, 0, 3, 0, 1), PLACE);
        some("shift: within the same, beyond its end", x -> x.shift(0, 1, 0, 2, 2), PLACE);
    }
}
