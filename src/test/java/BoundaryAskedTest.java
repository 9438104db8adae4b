/** What is asked (part 2 of the terms): a method for each sentence that names a boundary. */
public final class BoundaryAskedTest {
    public static void main(String[] args) {
        bestOfSeveralIsTheFirst();
        newIsWhoDoesNotKnow();
        againIs0To99Days();
        againIsTheFewest();
        eveningIs1To40Minutes();
        eveningOfSeveralIsTheLeastAsBits();
        coffeeAsLongAsAbove0();
        keepIs1To60Days();
        keepIsTwoUnlikeStories();
        suppersAre1To3By1To30Days();
        suppersOfSeveralAreTheFirstRow();
        suppersKnowByTheDay();
        seatsOfNobodyToSix();
        seatsLastNextToTheFirst();
        sparedIs0To8();
        facesAre6();
        hadIfLaughIs0OrMore();
        oddsAreInLowestTerms();
        oddsIfAbove0();
        meanIsInLowestTerms();
        theBookHas10();
        lookedAtIfNotAbove0();
        lookedAtOnTheNextDay();
        Check.end("BoundaryAskedTest");
    }

    private static ToldMeThat stories(int... goods) {
        ToldMeThat x = new ToldMeThat();
        x.hearer(0, 0);
        for (int good : goods) {
            x.story(good, 9);
        }
        return x;
    }

    private static void due(String call, long[] got, long first, long second) {
        Check.due(call + ", the first", got[0], first);
        Check.due(call + ", the second", got[1], second);
    }

    private static long[] best(ToldMeThat x, int table) {
        return new long[] {x.best(table, 0), x.best(table, 1)};
    }

    private static long[] evening(ToldMeThat x, int m) {
        return new long[] {x.evening(1, m, 0), x.evening(1, m, 1)};
    }

    private static long[] coffee(ToldMeThat x, int table) {
        return new long[] {x.coffee(table, 0), x.coffee(table, 1)};
    }

    private static long[] keep(ToldMeThat x, int table, int other, int n) {
        return new long[] {x.keep(table, other, n, 0), x.keep(table, other, n, 1)};
    }

    private static long[] odds(ToldMeThat x, int story) {
        return new long[] {x.odds(story, 0), x.odds(story, 1)};
    }

    private static long[] mean(ToldMeThat x, int table) {
        return new long[] {x.mean(table, 0), x.mean(table, 1)};
    }

    // "BEST of a TABLE: the STORY with most LAUGHTER (of several the first); how much."
    private static void bestOfSeveralIsTheFirst() {
        due("one", best(stories(1), 1), 0, 1);
        due("all alike", best(stories(5, 5, 5, 5, 5, 5, 5, 5), 1), 0, 5);
        due("the last alone", best(stories(5, 5, 5, 5, 5, 5, 5, 6), 1), 7, 6);
        due("the second of three", best(stories(5, 6, 6), 1), 1, 6);
        due("nobody laughs", best(stories(5, 6, 6), 0), 0, 0);
        ToldMeThat x = stories(5, 6, 7);
        for (int s = 0; s < 3; s++) {
            x.tell(s, 1);
        }
        due("all below 0", best(x, 1), 0, -5);
        Check.house(x, "sour 99 s<2;sour 98 s=2;face 99;days 0");
        due("far below 0", best(x, 1), 2, 7 - 98);
    }

    // "NEW of a STORY: to whom (bits) it is so (who does not KNOW it)."
    private static void newIsWhoDoesNotKnow() {
        for (int n = 0; n <= 6; n++) {
            ToldMeThat x = Room.of(n, 0, 1);
            Check.due("to all " + n, x.fresh(0), (1 << n) - 1);
            x.tell(0, (1 << n) - 1);
            Check.due("to none of " + n, x.fresh(0), 0);
        }
        ToldMeThat x = Room.of(6, 0, 1);
        x.tell(0, 63 - 32);
        Check.due("to the last", x.fresh(0), 32);
        x.pass(19);
        Check.due("on the 19th day", x.fresh(0), 32);
        x.pass(1);
        Check.due("on the 20th day", x.fresh(0), 63);
    }

    // "AGAIN: the fewest DAYS (0 .. 99) .. (-5: not by then)."
    private static void againIs0To99Days() {
        ToldMeThat x = Room.of(2, 5, 1);
        Check.due("nobody has had it", x.again(0, 3), 0);
        x.tell(0, 1);
        Check.due("of nobody", x.again(0, 0), 0);
        int[] days = {0, 1, 49, 50, 51, 99};
        int[] again = {0, 2, 98, -5, -5, -5};
        for (int i = 0; i < days.length; i++) {
            Check.due("HOUSE", Check.house(x, "days " + days[i]), i);
            Check.due("CHILDISH by " + days[i], x.again(0, 1), again[i]);
            Check.due("with one to whom it is new", x.again(0, 3), again[i]);
            Check.due("that one alone", x.again(0, 2), 0);
        }
        x.pass(98);
        Check.due("100 DAYS are too many", x.again(0, 1), -5);
        x.pass(1);
        Check.due("99 are not", x.again(0, 1), 99);
        ToldMeThat y = Room.of(1, 0, 1);
        Check.house(y, "days 99");
        y.tell(0, 1);
        Check.due("HEARER by 99", y.again(0, 1), 99);
    }

    // "the fewest DAYS .. from now behind which none of these KNOWS it": TOLD may know it again.
    private static void againIsTheFewest() {
        ToldMeThat x = Room.of(1, 6, 1);
        x.row(0, 2, 9);
        x.tell(0, 1);
        Check.due("on DAY 2 (20 / 9) it is not known", x.again(0, 1), 2);
        x.pass(2);
        Check.due("there it is", x.again(0, 1), 0);
        x.pass(1);
        Check.due("but on DAY 3 it is again", x.of(0, 20), 1);
        Check.due("until DAY 6", x.again(0, 1), 3);
        ToldMeThat y = Room.of(1, 6, 1);
        y.hearer(0, 0);
        y.row(0, 2, 9);
        y.tell(0, 3);
        Check.due("none of both", y.again(0, 3), 20);
        y.row(0, 0, 1);
        Check.house(y, "days 22");
        Check.due("none of both", y.again(0, 3), 22);
    }

    // "EVENING of a TABLE and m minutes (1 .. 40): .. LONG m at most, together".
    private static void eveningIs1To40Minutes() {
        ToldMeThat x = new ToldMeThat();
        x.hearer(0, 0);
        due("no STORIES, 1 minute", evening(x, 1), 0, 0);
        due("no STORIES, 40 minutes", evening(x, 40), 0, 0);
        x.story(3, 2);
        Check.due("0 minutes", x.evening(1, 0, 0), -10002);
        due("1 minute", evening(x, 1), 0, 0);
        due("2 minutes", evening(x, 2), 1, 3);
        x.story(4, 1);
        due("1 minute", evening(x, 1), 2, 4);
        due("3 minutes", evening(x, 3), 3, 7);
        Check.due("41 minutes", x.evening(1, 41, 0), -10002);
        ToldMeThat eight = stories(1, 2, 3, 4, 5, 6, 7, 8);
        due("8 minutes of nines", evening(eight, 8), 0, 0);
        due("9 minutes of nines", evening(eight, 9), 128, 8);
        due("35 minutes of nines", evening(eight, 35), 224, 21);
        due("36 minutes of nines", evening(eight, 36), 240, 26);
        due("40 minutes of nines", evening(eight, 40), 240, 26);
        ToldMeThat all = new ToldMeThat();
        all.hearer(0, 0);
        for (int s = 0; s < 8; s++) {
            all.story(30, 5);
        }
        due("all eight in 40", evening(all, 40), 255, 240);
        due("seven in 39", evening(all, 39), 127, 210);
    }

    // "(of several the least as bits)"; the set may be empty.
    private static void eveningOfSeveralIsTheLeastAsBits() {
        due("one of alike", evening(stories(5, 5, 5, 5), 9), 1, 5);
        due("two of alike", evening(stories(5, 5, 5, 5), 18), 3, 10);
        due("6 by 1 and 2, or by 3", evening(stories(4, 2, 6), 9), 4, 6);
        ToldMeThat x = stories(5, 6, 7);
        for (int s = 0; s < 3; s++) {
            x.tell(s, 1);
        }
        due("all below 0", evening(x, 40), 0, 0);
        Check.house(x, "days 0;sour 5 s=0;sour 6 s=1;sour 6 s=2");
        due("0, 0 and 1", evening(x, 40), 4, 1);
        Check.house(x, "days 0;sour 5 s=0;sour 6 s=1;sour 7 s=2");
        due("all 0", evening(x, 40), 0, 0);
        ToldMeThat y = new ToldMeThat();
        y.hearer(0, 0);
        y.story(6, 8);
        y.story(3, 4);
        y.story(3, 4);
        due("6, or 3 and 3, in 8", evening(y, 8), 1, 6);
        due("nobody", new long[] {y.evening(0, 40, 0), y.evening(0, 40, 1)}, 0, 0);
    }

    // "COFFEE: .. as long as LAUGHTER is above 0".
    private static void coffeeAsLongAsAbove0() {
        due("no STORIES", coffee(Room.of(1, 0, 0), 1), 0, 0);
        due("one", coffee(stories(1), 1), 1, 1);
        due("all eight", coffee(stories(1, 2, 3, 4, 5, 6, 7, 8), 1), 8, 36);
        due("nobody", coffee(stories(1, 2, 3, 4, 5, 6, 7, 8), 0), 0, 0);
        String[] texts = {"sour 4 s=1", "sour 5 s=1", "sour 6 s=1", "sour 99 s>0", "sour 99 s<9"};
        int[] many = {3, 2, 2, 1, 0};
        int[] much = {4 + 1 + 6, 10, 10, 4, 0};
        ToldMeThat x = stories(4, 5, 6);
        for (int i = 0; i < texts.length; i++) {
            Check.house(x, texts[i]);
            due(texts[i], coffee(x, 1), many[i], much[i]);
        }
    }

    // "KEEP of a TABLE, another TABLE, and n DAYS (1 .. 60)".
    private static void keepIs1To60Days() {
        ToldMeThat x = stories(10, 4);
        x.tell(0, 1);
        Check.house(x, "days 60");
        Check.due("0 DAYS", x.keep(1, 1, 0, 0), -10002);
        due("1 DAY", keep(x, 1, 1, 1), 1, -1);
        due("59 DAYS", keep(x, 1, 1, 59), 1, -1);
        due("60 DAYS", keep(x, 1, 1, 60), 10, 14);
        Check.due("61 DAYS", x.keep(1, 1, 61, 0), -10002);
        Check.house(x, "days 1");
        due("1 DAY of 1", keep(x, 1, 1, 1), 10, 14);
        due("nobody", keep(x, 0, 0, 1), 1, 0);
    }

    // "two unlike STORIES, .. 10 times the one, and the other (of several the first)".
    private static void keepIsTwoUnlikeStories() {
        Check.due("none", stories().keep(1, 1, 1, 0), -10005);
        Check.due("one", stories(30).keep(1, 1, 1, 0), -10005);
        due("two", keep(stories(30, 1), 1, 1, 1), 1, 31);
        due("the second not again", keep(stories(1, 30, 2), 1, 1, 30), 12, 32);
        due("all alike", keep(stories(5, 5, 5, 5, 5, 5, 5, 5), 1, 1, 1), 1, 10);
        due("the last two", keep(stories(1, 1, 1, 1, 1, 1, 2, 2), 1, 1, 1), 67, 4);
        due("the last at first", keep(stories(5, 5, 5, 5, 5, 5, 5, 6), 1, 0, 1), 70, 6);
        due("the last behind", keep(stories(5, 5, 5, 5, 5, 5, 5, 6), 0, 1, 1), 7, 6);
        ToldMeThat x = stories(5, 6);
        x.tell(0, 1);
        x.tell(1, 1);
        due("all below 0", keep(x, 1, 1, 1), 1, -10);
    }

    private static void suppers(String call, ToldMeThat x, int d, long much, int... row) {
        Check.due(call + ": how much", x.suppers(1, row.length, d, -1), much);
        for (int k = 0; k < 3; k++) {
            Check.due(call + ": " + k, x.suppers(1, row.length, d, k),
                k < row.length ? row[k] : -10005);
        }
    }

    // "SUPPERS of a TABLE, n (1 .. 3), and d DAYS (1 .. 30)".
    private static void suppersAre1To3By1To30Days() {
        ToldMeThat x = stories(10, 1);
        Check.due("n 0", x.suppers(1, 0, 1, -1), -10002);
        Check.due("n 4", x.suppers(1, 4, 1, -1), -10002);
        Check.due("d 0", x.suppers(1, 1, 0, -1), -10002);
        Check.due("d 31", x.suppers(1, 1, 31, -1), -10002);
        Check.due("k -2", x.suppers(1, 1, 1, -2), -10001);
        Check.due("k 3", x.suppers(1, 3, 1, 3), -10001);
        suppers("one, 1", x, 1, 10, 0);
        suppers("one, 30", x, 30, 10, 0);
        suppers("two, 1", x, 1, 11, 0, 1);
        suppers("two, 30", x, 30, 20, 0, 0);
        suppers("three, 1", x, 1, 10 + 1 - 5, 0, 0, 1);
        suppers("three, 30", x, 30, 30, 0, 0, 0);
        Check.house(x, "days 30");
        suppers("forgotten on the 30th", x, 30, 30, 0, 0, 0);
        Check.house(x, "days 31");
        suppers("not on the 30th", x, 30, 10 + 1 + 10, 0, 1, 0);
        Check.house(x, "days 1");
        suppers("forgotten on the next", x, 1, 30, 0, 0, 0);
        suppers("of the last STORY", stories(1, 1, 1, 1, 1, 1, 1, 30), 30, 90, 7, 7, 7);
    }

    // "(of several the first as a row)".
    private static void suppersOfSeveralAreTheFirstRow() {
        suppers("all alike, known", stories(5, 5, 5), 1, 15, 0, 1, 2);
        suppers("all alike, forgotten", stories(5, 5, 5), 30, 15, 0, 0, 0);
        suppers("eight alike", stories(5, 5, 5, 5, 5, 5, 5, 5), 1, 10, 0, 1);
        suppers("the better ones", stories(5, 6, 6, 6), 1, 18, 1, 2, 3);
        suppers("the worse one between", stories(5, 6), 10, 17, 1, 0, 1);
        suppers("one STORY alone", stories(5), 1, 5 - 5 - 5, 0, 0, 0);
        ToldMeThat known = stories(5, 6);
        known.tell(0, 1);
        known.tell(1, 1);
        suppers("all below 0", known, 1, -15, 0, 0, 0);
        ToldMeThat nobody = stories(5, 6);
        Check.due("of nobody", nobody.suppers(0, 3, 1, -1), 0);
        Check.due("of nobody", nobody.suppers(0, 3, 1, 2), 0);
    }

    // "the first told now, each next one d DAYS behind": the latest time counts, and that DAY.
    private static void suppersKnowByTheDay() {
        ToldMeThat x = stories(10);
        Check.house(x, "days 2");
        suppers("the first, known, but forgotten by the third?", x, 1, 10 - 5 - 5, 0, 0, 0);
        Check.house(x, "days 1");
        suppers("forgotten each time", x, 1, 30, 0, 0, 0);
        ToldMeThat y = stories(10, 9);
        Check.house(y, "days 2");
        suppers("0 again behind two", y, 1, 29, 0, 1, 0);
        ToldMeThat z = stories(10, 10);
        Check.house(z, "fun 1 w=6;sour 1 w=0&s=0");
        z.pass(6);
        suppers("w wraps behind 6", z, 1, 11 + 10, 0, 1);
    }

    private static void seats(String call, ToldMeThat x, long many, int... order) {
        Check.due(call + ": how many", x.seats(0, -1), many);
        for (int k = 0; k < 6; k++) {
            Check.due(call + ": " + k, x.seats(0, k), k < order.length ? order[k] : -5);
        }
    }

    private static ToldMeThat toldTo(int hearers, int table) {
        ToldMeThat x = Room.of(hearers, 0, 1);
        x.tell(0, table);
        return x;
    }

    // "SEATS of a STORY: of all orders .. HEARER 0 being the first of the row .. (-5: fewer)".
    private static void seatsOfNobodyToSix() {
        seats("nobody", toldTo(0, 0), 0);
        seats("one", toldTo(1, 0), 0, 0);
        seats("one that knows", toldTo(1, 1), 0, 0);
        seats("two", toldTo(2, 0), 0, 0, 1);
        seats("two, one knows", toldTo(2, 2), 1, 0, 1);
        seats("two that know", toldTo(2, 3), 0, 0, 1);
        seats("three, the first knows", toldTo(3, 1), 2, 0, 1, 2);
        seats("three, the last knows", toldTo(3, 4), 2, 0, 1, 2);
        seats("six, none knows", toldTo(6, 0), 0, 0, 1, 2, 3, 4, 5);
        seats("six, all know", toldTo(6, 63), 0, 0, 1, 2, 3, 4, 5);
        seats("six, one knows", toldTo(6, 8), 2, 0, 1, 2, 3, 4, 5);
        seats("six, five know", toldTo(6, 31), 1, 0, 1, 2, 3, 4, 5);
        Check.due("k -2", toldTo(6, 0).seats(0, -2), -1);
        Check.due("k 6", toldTo(6, 0).seats(0, 6), -1);
    }

    // "(the last one sits next to the first)"; "(of several the first as a row)".
    private static void seatsLastNextToTheFirst() {
        // 0 and 1 know: 0 serves both of its sides, 1 the other two.
        seats("six, 0 and 1 know", toldTo(6, 3), 4, 0, 2, 3, 1, 4, 5);
        // 4 and 5 know: 5, the last, serves HEARER 0.
        seats("six, 4 and 5 know", toldTo(6, 48), 4, 0, 1, 4, 2, 3, 5);
        seats("five, 4 knows", toldTo(5, 16), 2, 0, 1, 2, 3, 4);
        seats("five, 3 and 4 know", toldTo(5, 24), 3, 0, 1, 3, 2, 4);
        seats("six, three know", toldTo(6, 7), 3, 0, 1, 3, 2, 4, 5);
        seats("four, 2 and 3 know", toldTo(4, 12), 2, 0, 1, 2, 3);
    }

    // "SPARED of a HEARER and n (0 .. 8)"; "-10005: there are fewer STORIES".
    private static void sparedIs0To8() {
        for (int many = 0; many <= 8; many++) {
            ToldMeThat x = Room.of(1, 0, many);
            for (int n = 0; n <= 8; n++) {
                Check.due(n + " of " + many, x.spared(0, n), n <= many ? 10 * n : -10005);
            }
            Check.due("-1 of " + many, x.spared(0, -1), -10002);
            Check.due("9 of " + many, x.spared(0, 9), -10002);
        }
        ToldMeThat x = stories(9, 1, 8, 2, 7, 3, 6, 4);
        int[] least = {0, 1, 3, 6, 10, 16, 23, 31, 40};
        for (int n = 0; n <= 8; n++) {
            Check.due("the least " + n, x.spared(0, n), least[n]);
        }
        x.tell(0, 1);
        x.tell(4, 1);
        int[] below = {0, -5, -10, -9, -7, -4, 0, 6, 14};
        for (int n = 0; n <= 8; n++) {
            Check.due("the least " + n + ", two known", x.spared(0, n), below[n]);
        }
    }

    // "FACES told by hand: a STORY, and HEARERS who put one on (bits; 6 at most)".
    private static void facesAre6() {
        ToldMeThat x = Room.of(6, 0, 8);
        Check.due("at first", x.count(3), 0);
        Check.due("none yet", x.guess(0), 0);
        for (int n = 1; n <= 6; n++) {
            Check.due("FACES", x.see(n + 1, 63), n);
            Check.due("how many there are", x.count(3), n);
        }
        Check.due("a seventh", x.see(0, 63), -4);
        Check.due("how many there are", x.count(3), 6);
        Check.due("the last HEARER's", x.guess(5), 0b11111100);
        Check.due("none then, whatever the other is", x.see(-1, -1), 0);
        Check.due("none then", x.count(3), 0);
        Check.due("none then", x.guess(5), 0);
        Check.due("none of none", x.see(-1, Integer.MAX_VALUE), 0);
        Check.due("-2", x.see(-2, 0), -1);
        for (int n = 1; n <= 6; n++) {
            Check.due("six again", x.see(0, 0), n);
        }
        Check.due("of nobody", x.guess(0), 0);
        Check.due("a seventh", x.see(7, 1), -4);
        Check.due("none then, of six", x.see(-1, 5), 0);
        Check.due("the first STORY", x.see(0, 1), 1);
        Check.due("the last STORY", x.see(7, 33), 2);
        Check.due("the last STORY again", x.see(7, 33), 3);
        Check.due("of HEARER 0", x.guess(0), 129);
        Check.due("of HEARER 5", x.guess(5), 128);
        Check.due("of HEARER 1", x.guess(1), 0);
    }

    // "HAD: .. though LAUGH of it is 0 or more now".
    private static void hadIfLaughIs0OrMore() {
        ToldMeThat x = stories(5);
        x.see(0, 1);
        String[] texts = {"sour 4 h=0", "sour 5 h=0", "sour 6 h=0", "fun 9 h=0"};
        int[] had = {1, 1, 0, 1};
        for (int i = 0; i < texts.length; i++) {
            Check.house(x, texts[i]);
            Check.due("LAUGH " + x.laugh(0, 0), x.guess(0), had[i]);
        }
        x.tell(0, 1);
        Check.due("it knows it", x.guess(0), 0);
        Check.house(x, "face 0");
        Check.due("a face of 0", x.guess(0), 1);
        Check.house(x, "face 1");
        Check.due("a face of 1", x.guess(0), 0);
    }

    // "ODDS: .. a fraction in lowest terms".
    private static void oddsAreInLowestTerms() {
        int[] below = {1, 2, 4, 8, 16, 32, 64};
        for (int n = 0; n <= 6; n++) {
            ToldMeThat x = Room.of(n, 0, 1);
            due("any of " + n, odds(x, 0), below[n] - 1, below[n]);
            x.tell(0, (1 << n) - 1);
            due("none of " + n, odds(x, 0), 0, 1);
            Check.house(x, "face 0");
            due("0 by all " + n, odds(x, 0), 0, 1);
        }
        ToldMeThat x = Room.of(6, 1, 1);
        x.tell(0, 62);
        due("only one laughs", odds(x, 0), 1, 2);
        ToldMeThat y = Room.of(6, 1, 1);
        y.tell(0, 60);
        due("only two laugh", odds(y, 0), 3, 4);
        ToldMeThat all = Room.of(1, 0, 1);
        Check.due("part -1", all.odds(0, -1), ToldMeThat.NO);
        Check.due("part 2", all.odds(0, 2), ToldMeThat.NO);
    }

    // "how likely LAUGHTER is above 0".
    private static void oddsIfAbove0() {
        ToldMeThat x = Room.of(2, 0, 1);
        x.tell(0, 1);
        String[] texts = {"face 9", "face 10", "face 11"};
        int[] above = {1, 1, 1};
        int[] under = {2, 4, 4};
        for (int i = 0; i < texts.length; i++) {
            Check.house(x, texts[i]);
            due(texts[i], odds(x, 0), above[i], under[i]);
        }
    }

    // "MEAN: .. a fraction in lowest terms (NO: none)".
    private static void meanIsInLowestTerms() {
        Check.due("no STORIES", stories().mean(1, 0), ToldMeThat.NO);
        Check.due("no STORIES", stories().mean(1, 1), ToldMeThat.NO);
        due("one", mean(stories(7), 1), 7, 1);
        due("two", mean(stories(7, 8), 1), 15, 2);
        due("two, a whole", mean(stories(7, 9), 1), 8, 1);
        due("six by six", mean(stories(1, 1, 1, 1, 1, 4), 1), 3, 2);
        due("seven", mean(stories(1, 1, 1, 1, 1, 1, 2), 1), 8, 7);
        due("eight", mean(stories(1, 1, 1, 1, 1, 1, 1, 2), 1), 9, 8);
        due("eight by two", mean(stories(1, 1, 1, 1, 1, 1, 2, 2), 1), 5, 4);
        due("eight by four", mean(stories(1, 1, 1, 1, 2, 2, 2, 2), 1), 3, 2);
        due("eight by eight", mean(stories(30, 30, 30, 30, 30, 30, 30, 30), 1), 30, 1);
        due("nobody", mean(stories(7, 8, 9), 0), 0, 1);
        ToldMeThat x = stories(5, 6, 9, 9);
        x.tell(2, 1);
        x.tell(3, 1);
        due("11 less 10", mean(x, 1), 1, 4);
        x.good(0, 4);
        due("0", mean(x, 1), 0, 1);
        x.good(0, 3);
        due("-1", mean(x, 1), -1, 4);
        x.good(0, 2);
        due("-2", mean(x, 1), -1, 2);
        x.tell(1, 1);
        x.good(0, 3);
        due("-12", mean(x, 1), -3, 1);
        ToldMeThat most = Room.of(6, 0, 1);
        Check.house(most, "fun 99 g>0;fun 99 g>0;fun 99 g>0;fun 99 g>0");
        due("six of 406", mean(most, 63), 6 * 406, 1);
    }

    // "A BOOK told by hand: STORIES (10 at most)".
    private static void theBookHas10() {
        ToldMeThat x = Room.of(1, 0, 8);
        Check.due("at first", x.count(4), 0);
        Check.due("an empty one", x.looked(), -5);
        for (int n = 1; n <= 10; n++) {
            Check.due("entry " + n, x.book(n % 8), n);
            Check.due("how many there are", x.count(4), n);
        }
        Check.due("an eleventh", x.book(3), -4);
        Check.due("how many there are", x.count(4), 10);
        Check.due("it is empty then", x.book(-1), 0);
        Check.due("how many there are", x.count(4), 0);
        Check.due("an empty one", x.looked(), -5);
        Check.due("empty again", x.book(-1), 0);
        Check.due("-2", x.book(-2), -1);
        Check.due("8", x.book(8), -1);
        Check.due("7", x.book(7), 1);
        Check.due("0", x.book(0), 2);
    }

    // "LOOKED at: the first by which LAUGHTER is not above 0 (-5: none)."
    private static void lookedAtIfNotAbove0() {
        ToldMeThat x = stories(5, 6, 7);
        x.book(2);
        x.book(1);
        x.book(0);
        String[] texts = {"sour 4 s=0", "sour 5 s=0", "sour 6 s=1", "sour 7 s=2", "sour 6 g>0",
            "sour 7 g>0"};
        int[] looked = {-5, 2, 1, 0, 1, 0};
        for (int i = 0; i < texts.length; i++) {
            Check.house(x, texts[i]);
            Check.due(texts[i], x.looked(), looked[i]);
        }
        ToldMeThat ten = stories(1, 2, 3, 4, 5, 6, 7, 8);
        Check.house(ten, "days 0;face 0");
        for (int i = 0; i < 10; i++) {
            ten.book(i % 8);
        }
        Check.due("none of ten", ten.looked(), -5);
        Check.house(ten, "days 0;sour 2 t=1&s=1");
        Check.due("the tenth", ten.looked(), 9);
        Check.house(ten, "days 0;sour 1 t=1&s=0");
        Check.due("the ninth", ten.looked(), 8);
        ToldMeThat nobody = Room.of(0, 0, 1);
        nobody.book(0);
        Check.due("of nobody", nobody.looked(), 0);
    }

    // "the first told now, each next one on the next DAY, to all HEARERS".
    private static void lookedAtOnTheNextDay() {
        ToldMeThat x = stories(5, 6);
        for (int i = 0; i < 8; i++) {
            x.book(1);
        }
        Check.house(x, "days 0;sour 9 w=6");
        Check.due("w is 6 on DAY 6", x.looked(), 6);
        x.pass(1);
        Check.due("from DAY 1", x.looked(), 5);
        x.pass(5);
        Check.due("from DAY 6", x.looked(), 0);
        x.pass(1);
        Check.due("from DAY 7", x.looked(), 6);
        ToldMeThat y = stories(5, 6);
        y.book(0);
        y.book(1);
        y.book(0);
        int[] by = {0, 1, 2, 3};
        int[] looked = {-5, -5, -5, 2};
        for (int i = 0; i < by.length; i++) {
            Check.house(y, "days " + by[i]);
            Check.due("days " + by[i], y.looked(), looked[i]);
        }
        ToldMeThat all = Room.of(6, 0, 1);
        all.book(0);
        Check.house(all, "sour 69 h=5");
        Check.due("60 less 69", all.looked(), 0);
        Check.house(all, "sour 59 h=5");
        Check.due("60 less 59", all.looked(), -5);
    }
}
