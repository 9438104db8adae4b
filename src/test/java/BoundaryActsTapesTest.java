/** Acts, the image, tapes, judging: a method for each sentence that names a boundary. */
public final class BoundaryActsTapesTest {
    private static final int BYTES = 0, SHORTS = 1, INTS = 2, LONGS = 3, BOOLEANS = 4;
    private static final int NOTHING = -11, CAST = -12, PLACE = -13, SIZE = -14;
    private static final int MIN = Integer.MIN_VALUE, MAX = Integer.MAX_VALUE;
    private static final int[] ENDS = {0, 1, -1, 2, MAX, MIN, MAX - 1, MIN + 1, MAX / 2, MAX / 2 + 1,
        MIN / 2, MIN / 2 - 1, MAX / 3, MAX / 3 + 1, MIN / 3, MIN / 3 - 1};

    public static void main(String[] args) {
        actsWrap();
        actsAre0To2();
        theTraceIsOfTheLatestAct();
        takenIsKind0To6OrOneUnderThat();
        countIs0To6();
        theImageIsTakenAgain();
        theImageOfAllAndOfNothing();
        undoBringsBackWhatHolds();
        undoLeavesWhatIsNotInTheImage();
        tapesAre0To5AndHoldNothing();
        aTapeIsARowOf0To60();
        itemsAreTheLowestBits();
        itemsHavePlaces();
        shiftedAsTheyAllWereBefore();
        shiftedFromEndToEnd();
        judgedByTimesOfHearer0();
        judgedFromAPlaceOn();
        judgedIfThereIsNone();
        Check.end("BoundaryActsTapesTest");
    }

    private static int hears(int kind, int i, int v, int x) {
        int plain = (kind == 2 || kind == 5 ? 3 * x : x) + i;
        return kind == 4 ? -plain : kind == 6 ? plain ^ v : plain;
    }

    private static int laughs(int kind, int i, int v, int x) {
        int by = kind == 4 ? x + 1 : x;
        int plain = hears(kind, i, v, by) - v;
        return kind == 1 || kind == 4 ? plain ^ 6 : kind == 6 ? plain + 2 + i : plain;
    }

    private static int tells(int kind, int i, int v, int x) {
        int plain = 2 * laughs(kind, i, v, kind == 5 ? x - i : x);
        return kind == 3 || kind == 6 ? plain + laughs(kind, i, v, 1) : plain;
    }

    // "ACTS of a HEARER with x (wrapping)".
    private static void actsWrap() {
        for (int kind = 0; kind <= 6; kind++) {
            ToldMeThat x = new ToldMeThat();
            for (int i = 0; i < 6; i++) {
                x.hearer(kind, 9 - i);
            }
            for (int i = 0; i < 6; i += 5) {
                for (int by : ENDS) {
                    String who = "KIND " + kind + ", number " + i + ", x " + by;
                    Check.due(who + " hears", x.act(i, 0, by), hears(kind, i, 9 - i, by));
                    Check.due(who + " laughs", x.act(i, 1, by), laughs(kind, i, 9 - i, by));
                    Check.due(who + " tells", x.act(i, 2, by), tells(kind, i, 9 - i, by));
                }
            }
        }
        ToldMeThat by = new ToldMeThat();
        by.hearer(0, 9);
        by.hearer(2, 0);
        Check.due("MIN - 9", by.act(0, 1, MIN), MAX - 8);
        Check.due("2 * (MIN - 9)", by.act(0, 2, MIN), -18);
        Check.due("MAX + 1", by.act(1, 0, MAX / 3 * 3), (MAX / 3 * 3) * 3 + 1);
    }

    // "An ACT (0 hears, 1 laughs, 2 tells) .. 0, and no TRACE then: no such HEARER, act."
    private static void actsAre0To2() {
        ToldMeThat x = Room.of(6, 0, 0);
        int[][] none = {{6, 0}, {-1, 0}, {MAX, 1}, {MIN, 2}, {0, 3}, {0, -1}, {5, MAX}, {5, MIN}};
        for (int[] n : none) {
            Check.due("hears", x.act(0, 0, 7), 7);
            Check.due("its TRACE", x.trace(0), 10);
            Check.due("none", x.act(n[0], n[1], 7), 0);
            Check.due("no TRACE", x.trace(0), -1);
            Check.due("none ran", x.count(6), 0);
        }
        for (int h = 0; h < 6; h++) {
            Check.due("hears", x.act(h, 0, 0), h);
            Check.due("laughs", x.act(h, 1, 0), h);
            Check.due("tells", x.act(h, 2, 0), 2 * h);
        }
    }

    // "THE TRACE: the numbers of the bodies that ran in the latest act(), as they began".
    private static void theTraceIsOfTheLatestAct() {
        ToldMeThat x = Room.of(2, 6, 1);
        Check.due("none at first", x.trace(0), -1);
        Check.due("none ran at first", x.count(6), 0);
        x.act(1, 2, 5);
        int[] most = {40, 12, 70, 11, 71, 10, 10, 70, 11, 71, 10, 10};
        Check.due("most that run", x.count(6), 12);
        for (int i = 0; i < 12; i++) {
            Check.due("body " + i, x.trace(i), most[i]);
        }
        int[] beyond = {-1, 12, 13, 19, 20, MIN, MAX};
        for (int i : beyond) {
            Check.due("body " + i, x.trace(i), -1);
        }
        x.tell(0, 1);
        x.image();
        x.undo();
        Check.due("no other call is an act()", x.count(6), 12);
        x.act(1, 0, 5);
        Check.due("the latest one", x.count(6), 2);
        Check.due("its first", x.trace(0), 71);
        Check.due("its last", x.trace(1), 10);
        Check.due("none behind", x.trace(2), -1);
    }

    // "A HEARER taken for one of KIND k (0 .. 6), or one under that".
    private static void takenIsKind0To6OrOneUnderThat() {
        String[] kinds = {"0", "01", "02", "03", "014", "025", "036"};
        for (int kind = 0; kind <= 6; kind++) {
            ToldMeThat x = Room.of(1, kind, 0);
            for (int k = 0; k <= 6; k++) {
                boolean isOne = kinds[kind].indexOf('0' + k) >= 0;
                Check.due(kind + " for " + k, x.taken(0, k), isOne ? kind : CAST);
                Check.due("nobody for " + k, x.taken(1, k), NOTHING);
                Check.due("nobody for " + k, x.taken(-1, k), NOTHING);
            }
            Check.due("for -1", x.taken(0, -1), -2);
            Check.due("for 7", x.taken(0, 7), -2);
            Check.due("nobody for 7", x.taken(1, 7), -2);
        }
    }

    // "How many: 0 HEARERS, .. 6 bodies that ran. BAD."
    private static void countIs0To6() {
        ToldMeThat x = Room.full();
        int[] many = {6, 8, 6, 6, 10, 6, 6};
        Check.due("count(-1)", x.count(-1), -2);
        for (int what = 0; what <= 6; what++) {
            Check.due("count(" + what + ")", x.count(what), many[what]);
            Check.due("none at first: " + what, new ToldMeThat().count(what), 0);
        }
        Check.due("count(7)", x.count(7), -2);
    }

    // "THE IMAGE is taken: how many HEARERS there are." "All is as THE IMAGE .. STATE: none."
    private static void theImageIsTakenAgain() {
        ToldMeThat x = new ToldMeThat();
        Check.due("none", x.undo(), -3);
        Check.due("of nobody", x.image(), 0);
        x.hearer(0, 0);
        Check.due("of one", x.image(), 1);
        x.hearer(0, 0);
        Check.due("the latest", x.undo(), 1);
        Check.due("HEARERS", x.count(0), 1);
        Check.due("undo() again", x.undo(), 1);
        for (int h = 1; h < 6; h++) {
            x.hearer(h, h);
        }
        Check.due("of six", x.image(), 6);
        Check.due("six", x.undo(), 6);
        Check.due("a seventh", x.hearer(0, 0), -4);
    }

    // "THE IMAGE: STORIES, HEARERS with all that is theirs, DAY, FACES, the BOOK, which HOUSE holds."
    private static void theImageOfAllAndOfNothing() {
        ToldMeThat x = new ToldMeThat();
        x.image();
        for (int round = 0; round < 2; round++) {
            for (int i = 0; i < 10; i++) {
                x.hearer(6, i % 10);
                x.story(i + 1, 9);
                x.see(i % 8, 1);
                x.book(i % 8);
            }
            x.row(5, 3, 9);
            x.tell(7, 63);
            x.pass(99);
            Check.due("HEARERS", x.count(0), 6);
            Check.due("STORIES", x.count(1), 8);
            Check.due("FACES", x.count(3), 6);
            Check.due("the BOOK", x.count(4), 10);
            Check.due("back to nothing", x.undo(), 0);
            int[] nothing = {0, 0, 0, 0, 0, 0, 0};
            for (int what = 0; what <= 6; what++) {
                Check.due("count(" + what + ")", x.count(what), nothing[what]);
            }
            Check.due("DAY", x.told(0), 0);
            Check.due("the BOOK", x.looked(), -5);
            Check.due("nobody", x.guess(0), -1);
        }
        x.hearer(6, 0);
        x.story(5, 5);
        Check.due("ROW is 1 at first", x.row(0, 3, 5), 1);
        Check.due("TIMES are 0 at first", x.of(0, 10), 0);
        ToldMeThat all = Room.full();
        all.image();
        all.see(-1, 0);
        all.book(-1);
        for (int i = 0; i < 10; i++) {
            all.see(7 - i % 8, 63);
            all.book(7 - i % 8);
        }
        all.pass(50);
        for (int h = 0; h < 6; h++) {
            all.had(h, h, 77);
        }
        all.good(0, 30);
        all.row(5, 3, 9);
        Check.due("back to all", all.undo(), 6);
        ToldMeThat same = Room.full();
        same.image();
        Check.due("all is told alike", Room.tell(all).equals(Room.tell(same)) ? 1 : 0, 1);
    }

    // "which HOUSE holds": none, the first, the last.
    private static void undoBringsBackWhatHolds() {
        ToldMeThat x = Room.of(1, 0, 1);
        for (int i = 0; i < 6; i++) {
            x.image();
            Check.due("HOUSE " + i, Check.house(x, "fun " + (i + 1) + " h=0;days " + (i + 1)), i);
            Check.due("it holds", x.of(0, 30), 1001 + i);
            x.undo();
            Check.due("the one before holds", x.of(0, 30), 1000 + i);
            Check.due("its days", x.told(1), i == 0 ? 20 : i);
            Check.due("HOUSES are not in THE IMAGE", x.count(2), i + 1);
            if (i < 5) {
                x.image();
                Check.house(x, "?");
                Check.due("a FAULT", x.of(0, 30), 1000 + i);
            }
            // Make the newest hold again, by an image of it, where there is room for one.
            x = i < 5 ? upTo(i + 1) : x;
        }
        Check.due("a seventh", x.house(), -4);
    }

    private static ToldMeThat upTo(int houses) {
        ToldMeThat x = Room.of(1, 0, 1);
        for (int i = 0; i < houses; i++) {
            Check.house(x, "fun " + (i + 1) + " h=0;days " + (i + 1));
        }
        return x;
    }

    // THE TEXT, the HOUSES that there are, the TAPES and THE TRACE are not in THE IMAGE.
    private static void undoLeavesWhatIsNotInTheImage() {
        ToldMeThat x = Room.of(1, 0, 1);
        Room.feed(x, "days");
        x.tape(0, INTS, 2);
        x.item(0, 1, 8);
        x.tape(1, INTS, 2);
        x.image();
        Room.feed(x, " 9");
        x.tape(0, BYTES, 1);
        x.item(0, 0, 9);
        x.tape(1, -1, 0);
        x.act(0, 1, 1);
        x.undo();
        Check.due("THE TEXT", x.count(5), 6);
        Check.due("TAPE 0", x.read(0, 0), 9);
        Check.due("its end", x.read(0, 1), ToldMeThat.NO);
        Check.due("TAPE 1", x.item(1, 0, 1), NOTHING);
        Check.due("THE TRACE", x.trace(1), 10);
        Check.due("how many ran", x.count(6), 2);
        Check.due("THE TEXT is a HOUSE", x.house(), 0);
        Check.due("by its days", x.told(1), 9);
        x.undo();
        Check.due("none holds", x.told(1), 20);
        Check.due("HOUSES", x.count(2), 1);
    }

    // "TAPES 0 .. 5 hold nothing (at first)".
    private static void tapesAre0To5AndHoldNothing() {
        ToldMeThat x = new ToldMeThat();
        int[] none = {-1, 6, MIN, MAX};
        for (int t : none) {
            Check.due("item of TAPE " + t, x.item(t, 0, 1), -1);
            Check.due("TAPE " + t, x.tape(t, INTS, 1), -1);
            Check.due("TAPE " + t + " of nothing", x.tape(t, -1, 1), -1);
            Check.due("judge TAPE " + t, x.judge(t, 0), -1);
            Check.due("shift TAPE " + t, x.shift(t, 0, 0, 0, 0), -1);
            Check.due("shift to TAPE " + t, x.shift(0, 0, t, 0, 0), -1);
            Check.due("read TAPE " + t, x.read(t, 0), ToldMeThat.NO);
        }
        for (int t = 0; t < 6; t++) {
            Check.due("NOTHING in " + t, x.item(t, 0, 1), NOTHING);
            Check.due("NOTHING in " + t, x.shift(t, 0, t, 0, 0), NOTHING);
            Check.due("nothing read in " + t, x.read(t, 0), ToldMeThat.NO);
            Check.due("TAPE " + t, x.tape(t, t < 5 ? t : 0, 1), 1);
            Check.due("an item of it", x.item(t, 0, 1), 1);
            Check.due("it is read", x.read(t, 0), 1);
        }
        for (int t = 0; t < 6; t++) {
            Check.due("each its own", x.read(t, 0), 1);
            Check.due("TAPE " + t + " holds nothing", x.tape(t, -1, t % 2 == 0 ? MIN : MAX), 1);
            Check.due("NOTHING in " + t, x.item(t, 0, 1), NOTHING);
            Check.due("nothing read in " + t, x.read(t, 0), ToldMeThat.NO);
        }
    }

    // "A TAPE becomes a row of n (0 .. 60) of a sort, all 0 .. BAD: sort, n above 60; SIZE."
    private static void aTapeIsARowOf0To60() {
        for (int sort = BYTES; sort <= BOOLEANS; sort++) {
            ToldMeThat x = new ToldMeThat();
            Check.due("60", x.tape(0, sort, 60), 1);
            Check.due("its last", x.item(0, 59, 1), 1);
            Check.due("its first", x.item(0, 0, 1), 1);
            Check.due("beyond", x.item(0, 60, 1), PLACE);
            Check.due("61", x.tape(0, sort, 61), -2);
            Check.due("-1", x.tape(0, sort, -1), SIZE);
            Check.due("refused: its last is still there", x.read(0, 59), 1);
            Check.due("60 again", x.tape(0, sort, 60), 1);
            for (int i = 0; i < 60; i++) {
                Check.due("all 0: " + i, x.read(0, i), 0);
            }
            Check.due("1", x.tape(0, sort, 1), 1);
            Check.due("its only one", x.item(0, 0, 1), 1);
            Check.due("beyond", x.item(0, 1, 1), PLACE);
            Check.due("0", x.tape(0, sort, 0), 1);
            Check.due("a row of none", x.item(0, 0, 1), PLACE);
            Check.due("a row of none", x.read(0, 0), ToldMeThat.NO);
            Check.due("none of none", x.shift(0, 0, 0, 0, 0), 0);
            Check.due("2", x.tape(0, sort, 2), 1);
            Check.due("all 0", x.read(0, 0), 0);
        }
        ToldMeThat x = new ToldMeThat();
        Check.due("sort -2", x.tape(0, -2, 1), -2);
        Check.due("sort 5", x.tape(0, 5, 1), -2);
        Check.due("sort 5 ahead of SIZE", x.tape(0, 5, -1), -2);
        Check.due("none of it was taken", x.item(0, 0, 1), NOTHING);
    }

    private static void item(int sort, long v, long want) {
        ToldMeThat x = new ToldMeThat();
        x.tape(3, sort, 3);
        Check.due("item", x.item(3, 1, v), 1);
        Check.due(v + " of sort " + sort, x.read(3, 1), want);
        Check.due("the one before", x.read(3, 0), 0);
        Check.due("the one behind", x.read(3, 2), 0);
    }

    // "Item i of a TAPE becomes v (its lowest bits, as many as an item has; booleans: whether ..)".
    private static void itemsAreTheLowestBits() {
        long[] bytes = {127, 127, 128, -128, -128, -128, -129, 127, 255, -1, 256, 0, 257, 1};
        long[] shorts = {32767, 32767, 32768, -32768, -32768, -32768, -32769, 32767, 65535, -1,
            65536, 0, 65537, 1};
        long[] ints = {MAX, MAX, MAX + 1L, MIN, MIN, MIN, MIN - 1L, MAX, (1L << 32) - 1, -1,
            1L << 32, 0, (1L << 32) + 1, 1, Long.MIN_VALUE, 0, Long.MAX_VALUE, -1};
        long[] longs = {Long.MAX_VALUE, Long.MAX_VALUE, Long.MIN_VALUE, Long.MIN_VALUE, -1, -1,
            1L << 32, 1L << 32};
        long[] booleans = {0, 0, 1, 1, -1, 1, 2, 1, 256, 1, 1L << 32, 1, Long.MIN_VALUE, 1};
        long[][] all = {bytes, shorts, ints, longs, booleans};
        for (int sort = BYTES; sort <= BOOLEANS; sort++) {
            for (int i = 0; i < all[sort].length; i += 2) {
                item(sort, all[sort][i], all[sort][i + 1]);
            }
        }
    }

    // "PLACE (-13): no such place"; "NO: no such TAPE, nothing there, no such place".
    private static void itemsHavePlaces() {
        ToldMeThat x = new ToldMeThat();
        x.tape(0, LONGS, 60);
        x.tape(1, LONGS, 7);
        x.item(0, 7, 5);
        int[] beyond0 = {-1, 60, 61, MIN, MAX};
        int[] beyond1 = {-1, 7, 8, 59, 60, MIN, MAX};
        for (int i : beyond0) {
            Check.due("item " + i + " of 60", x.item(0, i, 1), PLACE);
            Check.due("read " + i + " of 60", x.read(0, i), ToldMeThat.NO);
        }
        for (int i : beyond1) {
            Check.due("item " + i + " of 7", x.item(1, i, 1), PLACE);
            Check.due("read " + i + " of 7", x.read(1, i), ToldMeThat.NO);
        }
        Check.due("the last of 7", x.item(1, 6, Long.MIN_VALUE + 1), 1);
        Check.due("the last of 7", x.read(1, 6), Long.MIN_VALUE + 1);
        Check.due("the other row", x.read(0, 7), 5);
    }

    private static ToldMeThat counted(int sort, int n) {
        ToldMeThat x = new ToldMeThat();
        x.tape(0, sort, n);
        for (int i = 0; i < n; i++) {
            x.item(0, i, i + 1);
        }
        return x;
    }

    // "n items of a TAPE from i on come to another one (or the same) from j on, as they all were".
    private static void shiftedAsTheyAllWereBefore() {
        for (int sort = BYTES; sort <= LONGS; sort++) {
            for (int i = 0; i <= 6; i++) {
                for (int j = 0; j <= 6; j++) {
                    int n = 6 - Math.max(i, j);
                    ToldMeThat x = counted(sort, 6);
                    Check.due(n + " from " + i + " to " + j, x.shift(0, i, 0, j, n), n);
                    for (int k = 0; k < 6; k++) {
                        boolean came = k >= j && k < j + n;
                        Check.due("item " + k, x.read(0, k), came ? k - j + i + 1 : k + 1);
                    }
                    Check.due("one more", x.shift(0, i, 0, j, n + 1), PLACE);
                }
            }
        }
    }

    // "PLACE: n, i or j is below 0, or beyond either's end"; "CAST: of unlike sorts".
    private static void shiftedFromEndToEnd() {
        for (int sort = BYTES; sort <= BOOLEANS; sort++) {
            ToldMeThat x = counted(sort, 60);
            x.tape(1, sort, 60);
            x.tape(2, sort, 59);
            x.tape(3, sort, 0);
            Check.due("all 60", x.shift(0, 0, 1, 0, 60), 60);
            Check.due("the first came", x.read(1, 0), 1);
            Check.due("the last came", x.read(1, 59), sort == BOOLEANS ? 1 : 60);
            Check.due("61", x.shift(0, 0, 1, 0, 61), PLACE);
            Check.due("60 to 59", x.shift(0, 0, 2, 0, 60), PLACE);
            Check.due("60 from 59", x.shift(2, 0, 0, 0, 60), PLACE);
            Check.due("none came", x.read(2, 0), 0);
            Check.due("59 to 59", x.shift(0, 1, 2, 0, 59), 59);
            Check.due("the last came", x.read(2, 58), sort == BOOLEANS ? 1 : 60);
            Check.due("none from the end", x.shift(0, 60, 3, 0, 0), 0);
            Check.due("none to the end", x.shift(3, 0, 0, 60, 0), 0);
            Check.due("none beyond the end", x.shift(0, 61, 3, 0, 0), PLACE);
            Check.due("none to beyond the end", x.shift(3, 0, 0, 61, 0), PLACE);
            Check.due("i -1", x.shift(0, -1, 1, 0, 1), PLACE);
            Check.due("j -1", x.shift(0, 0, 1, -1, 1), PLACE);
            Check.due("n -1", x.shift(0, 0, 1, 0, -1), PLACE);
            Check.due("n -1 from within", x.shift(0, 5, 1, 5, -1), PLACE);
            Check.due("i and n wrap", x.shift(0, MAX, 1, 0, MAX), PLACE);
            Check.due("j and n wrap", x.shift(0, 0, 1, MAX, MAX), PLACE);
            for (int other = BYTES; other <= BOOLEANS; other++) {
                x.tape(4, other, 60);
                Check.due("sort " + sort + " to " + other, x.shift(0, 0, 4, 0, 1),
                    sort == other ? 1 : CAST);
            }
            Check.due("from NOTHING", x.shift(5, 0, 0, 0, 1), NOTHING);
            Check.due("to NOTHING", x.shift(0, 0, 5, 0, 1), NOTHING);
        }
    }

    /** HEARER 0 has had STORY s s + 1 times, and TAPE 0 tells so from the place on. */
    private static ToldMeThat judged(int stories, int from, int size) {
        ToldMeThat x = Room.of(2, 0, stories);
        x.tape(0, INTS, size);
        for (int s = 0; s < stories; s++) {
            x.had(0, s, s + 1);
            x.had(1, s, 50);
            x.item(0, from + s, s + 1);
        }
        return x;
    }

    // "TIMES of HEARER 0 .. STORY by STORY, are JUDGED: the first that is otherwise; -5: none".
    private static void judgedByTimesOfHearer0() {
        for (int stories = 1; stories <= 8; stories++) {
            ToldMeThat x = judged(stories, 3, 60);
            Check.due("none of " + stories, x.judge(0, 3), -5);
            for (int s = stories - 1; s >= 0; s--) {
                x.item(0, 3 + s, 0);
                Check.due("the first, too few", x.judge(0, 3), s);
                x.item(0, 3 + s, s + 2);
                Check.due("the first, too many", x.judge(0, 3), s);
            }
        }
        ToldMeThat nobody = Room.of(0, 0, 3);
        nobody.tape(0, INTS, 3);
        Check.due("0, if there is none", nobody.judge(0, 0), -5);
        nobody.item(0, 2, 1);
        Check.due("0, if there is none", nobody.judge(0, 0), 2);
        nobody.item(0, 0, -1);
        Check.due("0, if there is none", nobody.judge(0, 0), 0);
        ToldMeThat many = judged(1, 0, 1);
        many.had(0, 0, 99);
        many.tell(0, 1);
        many.item(0, 0, 100);
        Check.due("TIMES above 99", many.judge(0, 0), -5);
    }

    // "100 and how many were looked at, if the row ends ahead of that (or the place is below 0 ..)".
    private static void judgedFromAPlaceOn() {
        for (int size = 0; size <= 9; size++) {
            ToldMeThat x = judged(8, 0, size);
            Check.due("a row of " + size, x.judge(0, 0), size < 8 ? 100 + size : -5);
            Check.due("from its end", x.judge(0, size), 100);
            Check.due("from beyond", x.judge(0, size + 1), 100);
            Check.due("from far beyond", x.judge(0, MAX), 100);
            Check.due("below 0", x.judge(0, -1), 100);
            Check.due("far below 0", x.judge(0, MIN), 100);
        }
        ToldMeThat last = judged(8, 52, 60);
        Check.due("the last eight", last.judge(0, 52), -5);
        Check.due("the last seven: the first is otherwise", last.judge(0, 53), 0);
        last.shift(0, 52, 0, 53, 7);
        Check.due("the last seven", last.judge(0, 53), 107);
        last.item(0, 59, 1);
        Check.due("otherwise at the end of the row", last.judge(0, 59), 101);
        last.item(0, 59, 9);
        Check.due("otherwise ahead of the end", last.judge(0, 53), 6);
        Check.due("otherwise at once", last.judge(0, 59), 0);
    }

    // "-5: .. there is none to look at; .. 100 .. (.. or the TAPE holds nothing)"; CAST.
    private static void judgedIfThereIsNone() {
        ToldMeThat x = Room.of(1, 0, 0);
        int[] places = {0, -1, 1, 60, MIN, MAX};
        for (int i : places) {
            Check.due("no STORIES, nothing", x.judge(0, i), -5);
        }
        x.tape(0, INTS, 2);
        for (int i : places) {
            Check.due("no STORIES, ints", x.judge(0, i), -5);
        }
        x.tape(1, LONGS, 2);
        Check.due("no STORIES, longs", x.judge(1, 0), CAST);
        x.story(5, 5);
        for (int i : places) {
            Check.due("the TAPE holds nothing", x.judge(2, i), 100);
        }
        for (int sort = BYTES; sort <= BOOLEANS; sort++) {
            x.tape(1, sort, 0);
            Check.due("none of sort " + sort, x.judge(1, 0), sort == INTS ? 100 : CAST);
            x.tape(1, sort, 1);
            Check.due("0 of sort " + sort, x.judge(1, 0), sort == INTS ? -5 : CAST);
            Check.due("below 0 of sort " + sort, x.judge(1, -1), sort == INTS ? 100 : CAST);
        }
        Check.due("TAPE -1", x.judge(-1, 0), -1);
        Check.due("TAPE 6", x.judge(6, 0), -1);
        Check.due("TAPE 5", x.judge(5, 0), 100);
    }
}
