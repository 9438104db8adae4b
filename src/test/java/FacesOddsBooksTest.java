/** Promises 25 to 30: faces, odds, the mean, the book. */
public final class FacesOddsBooksTest {
    public static void main(String[] args) {
        see();
        guess();
        odds();
        mean();
        book();
        looked();
        lookedGoesOn();
        Check.end("FacesOddsBooksTest");
    }

    private static ToldMeThat room(int[] kinds, int[] goods) {
        ToldMeThat x = new ToldMeThat();
        for (int kind : kinds) {
            x.hearer(kind, 0);
        }
        for (int good : goods) {
            x.story(good, 1);
        }
        return x;
    }

    private static void see() {
        ToldMeThat x = room(new int[] {0, 0}, new int[] {5, 6});
        Check.due("see(2, 4)", x.see(2, 4), ToldMeThat.NONE);
        Check.due("see(-2, 1)", x.see(-2, 1), ToldMeThat.NONE);
        Check.due("see(0, 4)", x.see(0, 4), ToldMeThat.BAD);
        Check.due("see(0, -1)", x.see(0, -1), ToldMeThat.BAD);
        Check.due("a face of nobody", x.see(0, 0), 1);
        for (int n = 2; n <= 6; n++) {
            Check.due("face " + n, x.see(n % 2, 3), n);
        }
        Check.due("a seventh", x.see(1, 3), ToldMeThat.FULL);
        Check.due("a bad seventh", x.see(1, 4), ToldMeThat.BAD);
        Check.due("count(3)", x.count(3), 6);
        Check.due("none then", x.see(-1, 99), 0);
        Check.due("count(3)", x.count(3), 0);
        Check.due("nothing to guess by", x.guess(0), 0);
        Check.due("see(-1, -1)", x.see(-1, -1), 0);
        Check.due("see(1, 1)", x.see(1, 1), 1);
    }

    private static void guess() {
        ToldMeThat x = room(new int[] {0, 1, 2}, new int[] {5, 6, 1});
        x.see(0, 3);
        x.see(2, 6);
        Check.due("guess(0)", x.guess(0), 1);
        Check.due("guess(1)", x.guess(1), 5);
        Check.due("guess(2)", x.guess(2), 4);
        Check.due("guess(3)", x.guess(3), ToldMeThat.NONE);
        Check.due("guess(-1)", x.guess(-1), ToldMeThat.NONE);
        x.tell(0, 3);
        Check.due("it is known to have had it", x.guess(0), 0);
        Check.due("a POLITE one's 0", x.guess(1), 5);
        x.had(2, 2, 1);
        x.pass(20);
        Check.due("forgotten, 1 less 1", x.guess(2), 4);
        Check.due("forgotten", x.guess(0), 1);
        x.had(2, 2, 2);
        x.pass(20);
        Check.due("1 less 2", x.guess(2), 0);
    }

    private static void expectOdds(ToldMeThat x, int story, long above, long below) {
        Check.due("odds above", x.odds(story, 0), above);
        Check.due("odds below", x.odds(story, 1), below);
    }

    private static void odds() {
        ToldMeThat x = new ToldMeThat();
        Check.due("no story", x.odds(0, 0), ToldMeThat.NO);
        x.story(4, 1);
        expectOdds(x, 0, 0, 1);
        x.hearer(0, 0);
        expectOdds(x, 0, 1, 2);
        x.hearer(0, 0);
        expectOdds(x, 0, 3, 4);
        x.tell(0, 1);
        // -5 and 4: only the other one alone laughs.
        expectOdds(x, 0, 1, 4);
        x.good(0, 5);
        expectOdds(x, 0, 1, 4);
        x.good(0, 6);
        expectOdds(x, 0, 1, 2);
        x.tell(0, 2);
        expectOdds(x, 0, 0, 1);
        for (int h = 2; h < 6; h++) {
            x.hearer(1, 0);
        }
        // -5 and -5, and four times 6: 1 * 15 of none, 2 * 15 of one, 1 * 11 of both.
        expectOdds(x, 0, 7, 8);
        Check.due("odds(0, 2)", x.odds(0, 2), ToldMeThat.NO);
        Check.due("odds(0, -1)", x.odds(0, -1), ToldMeThat.NO);
        Check.due("odds(1, 0)", x.odds(1, 0), ToldMeThat.NO);
        Check.due("odds(-1, 0)", x.odds(-1, 0), ToldMeThat.NO);
    }

    private static void expectMean(ToldMeThat x, int table, long above, long below) {
        Check.due("mean above of " + table, x.mean(table, 0), above);
        Check.due("mean below of " + table, x.mean(table, 1), below);
    }

    private static void mean() {
        ToldMeThat x = room(new int[] {0, 2}, new int[] {});
        Check.due("no stories", x.mean(1, 0), ToldMeThat.NO);
        x.story(4, 1);
        expectMean(x, 3, 8, 1);
        x.story(5, 1);
        expectMean(x, 1, 9, 2);
        expectMean(x, 3, 9, 1);
        expectMean(x, 0, 0, 1);
        x.story(3, 1);
        x.story(2, 1);
        expectMean(x, 1, 7, 2);
        x.tell(0, 2);
        x.tell(1, 2);
        expectMean(x, 2, -15, 4);
        x.tell(2, 2);
        x.tell(3, 2);
        x.pass(20);
        x.tell(0, 2);
        // -10, 4, 2 and 1, less than nothing by 3.
        expectMean(x, 2, -3, 4);
        Check.due("mean(4, 0)", x.mean(4, 0), ToldMeThat.NO);
        Check.due("mean(-1, 0)", x.mean(-1, 0), ToldMeThat.NO);
        Check.due("mean(1, 2)", x.mean(1, 2), ToldMeThat.NO);
        Check.due("mean(1, -1)", x.mean(1, -1), ToldMeThat.NO);
        ToldMeThat y = room(new int[] {0}, new int[] {5, 5, 5, 5, 5, 5});
        y.tell(1, 1);
        y.tell(2, 1);
        y.tell(3, 1);
        expectMean(y, 1, 0, 1);
        y.good(0, 9);
        expectMean(y, 1, 2, 3);
    }

    private static void book() {
        ToldMeThat x = room(new int[] {0}, new int[] {5, 6});
        Check.due("book(2)", x.book(2), ToldMeThat.NONE);
        Check.due("book(-2)", x.book(-2), ToldMeThat.NONE);
        for (int n = 1; n <= 10; n++) {
            Check.due("book " + n, x.book(n % 2), n);
        }
        Check.due("an eleventh", x.book(0), ToldMeThat.FULL);
        Check.due("an eleventh of none", x.book(2), ToldMeThat.NONE);
        Check.due("count(4)", x.count(4), 10);
        Check.due("book(-1)", x.book(-1), 0);
        Check.due("count(4)", x.count(4), 0);
        Check.due("an empty book", x.looked(), -5);
        Check.due("book(1)", x.book(1), 1);
    }

    private static void looked() {
        ToldMeThat x = room(new int[] {0, 0}, new int[] {5, 6, 7});
        Check.due("looked()", x.looked(), -5);
        x.book(2);
        Check.due("one", x.looked(), -5);
        x.book(1);
        x.book(0);
        Check.due("three", x.looked(), -5);
        x.book(1);
        Check.due("1 again by its place", x.looked(), 3);
        x.book(2);
        Check.due("the first of two", x.looked(), 3);
        x.tell(1, 3);
        Check.due("1 is known from now", x.looked(), 1);
        x.pass(18);
        Check.due("not yet by the next day", x.looked(), 1);
        x.pass(1);
        Check.due("forgotten by the next day", x.looked(), 3);
        Check.due("nothing is told", x.of(0, 10), 0);
        ToldMeThat nobody = room(new int[] {}, new int[] {5});
        nobody.book(0);
        Check.due("0 is not above 0", nobody.looked(), 0);
    }

    private static void lookedGoesOn() {
        // CHILDISH laughs on at what it knows, and by TIMES less at what it has forgotten.
        ToldMeThat x = room(new int[] {5}, new int[] {6, 9});
        for (int i = 0; i < 10; i++) {
            x.book(0);
        }
        Check.due("it knows it all along", x.looked(), -5);
        Check.house(x, "days 0");
        Check.due("G less TIMES: 6, 5, 4, 3, 2, 1, 0", x.looked(), 6);
        Check.house(x, "days 0;sour 9 w=4");
        Check.due("the mood of that day", x.looked(), 4);
        Check.house(x, "days 0;sour 9 t=3");
        Check.due("the mood by TIMES", x.looked(), 3);
        ToldMeThat y = room(new int[] {0}, new int[] {6, 9});
        y.book(0);
        y.book(1);
        y.book(0);
        Check.house(y, "days 2");
        Check.due("forgotten by the day after the next", y.looked(), -5);
        y.book(0);
        Check.due("the last time is the latest one", y.looked(), 3);
        Check.house(y, "days 3");
        Check.due("not forgotten yet", y.looked(), 2);
    }
}
