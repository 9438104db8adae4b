/** Promises 13 to 18: stories told, laughs, what would be, the best, to whom, when again. */
public final class StoriesToldTest {
    public static void main(String[] args) {
        tell();
        laughOfEachKind();
        laughHangsOnMood();
        knowingOfEachKind();
        would();
        best();
        fresh();
        again();
        Check.end("StoriesToldTest");
    }

    private static ToldMeThat allKinds() {
        ToldMeThat x = new ToldMeThat();
        for (int kind = 0; kind < 6; kind++) {
            x.hearer(kind, kind + 1);
        }
        return x;
    }

    private static void tell() {
        ToldMeThat x = new ToldMeThat();
        Check.due("tell nothing", x.tell(0, 0), -10001);
        x.story(10, 2);
        x.story(4, 2);
        x.hearer(0, 0);
        x.hearer(2, 0);
        Check.due("tell(2, 4)", x.tell(2, 4), -10001);
        Check.due("tell(-1, 0)", x.tell(-1, 0), -10001);
        Check.due("tell(0, 4)", x.tell(0, 4), -10002);
        Check.due("tell(0, -1)", x.tell(0, -1), -10002);
        Check.due("tell(0, MIN)", x.tell(0, Integer.MIN_VALUE), -10002);
        Check.due("tell to nobody", x.tell(0, 0), 0);
        Check.due("nobody had it", x.of(0, 10), 0);
        Check.due("told(0, 3)", x.tell(0, 3), 20);
        Check.due("one more", x.of(0, 10), 1);
        Check.due("one more", x.of(1, 10), 1);
        Check.due("not the other story", x.of(0, 11), 0);
        Check.due("tell(0, 2)", x.tell(0, 2), -10);
        Check.due("HEARER 0 not", x.of(0, 10), 1);
        Check.due("HEARER 1", x.of(1, 10), 2);
        x.pass(20);
        Check.due("forgotten, but less by TIMES", x.tell(0, 3), 10 + 8);
        x.pass(19);
        Check.due("the last time is the day of telling", x.of(0, 20), 1);
        Check.due("told again", x.tell(0, 1), -5);
        for (int i = 0; i < 450; i++) {
            x.tell(1, 1);
        }
        Check.due("many times", x.of(0, 11), 450);
    }

    private static void laughOfEachKind() {
        ToldMeThat x = allKinds();
        ToldMeThat y = new ToldMeThat();
        Check.due("laugh(0, 0) without stories", x.laugh(0, 0), -10001);
        x.story(12, 1);
        y.story(12, 1);
        y.hearer(6, 9);
        Check.due("laugh(6, 0)", x.laugh(6, 0), -10001);
        Check.due("laugh(-1, 0)", x.laugh(-1, 0), -10001);
        Check.due("laugh(0, 1)", x.laugh(0, 1), -10001);
        Check.due("laugh(0, -1)", x.laugh(0, -1), -10001);
        int[] known = {-5, 0, -10, -5, 5, 12 + 6};
        int[] forgotten = {12, 12, 12 - 3, 12, 12, 12 - 3};
        for (int h = 0; h < 6; h++) {
            Check.due("new to " + h, x.laugh(h, 0), 12);
            x.had(h, 0, 3);
            Check.due("known to " + h, x.laugh(h, 0), known[h]);
        }
        Check.due("new to TOLD", y.laugh(0, 0), 12);
        y.had(0, 0, 3);
        Check.due("known to TOLD", y.laugh(0, 0), -5);
        x.pass(40);
        y.pass(40);
        for (int h = 0; h < 6; h++) {
            Check.due("forgotten by " + h, x.laugh(h, 0), forgotten[h]);
        }
        Check.due("forgotten by TOLD", y.laugh(0, 0), 12);
        Check.due("asking changes nothing", x.of(0, 10), 3);
    }

    private static void laughHangsOnMood() {
        ToldMeThat x = allKinds();
        x.story(12, 1);
        Check.house(x, "sour 40 t=0;fun 7 t=1;face 0;fun 50 w=1");
        for (int h = 0; h < 6; h++) {
            Check.due("a sour mood of " + h, x.laugh(h, 0), 12 - 40);
            x.had(h, 0, 1);
        }
        int[] known = {0, 0, 0, 0, 5, 12 + 7 + 6};
        for (int h = 0; h < 6; h++) {
            Check.due("face 0, known to " + h, x.laugh(h, 0), known[h]);
        }
        x.pass(1);
        Check.due("CHILDISH on day 1", x.laugh(5, 0), 12 + 7 + 50 + 6);
    }

    private static void knowingOfEachKind() {
        // 20 days without a HOUSE, and 15 by one: the last day on which each KNOWS it.
        int[] last = {19, 19, 19, 9, 19, 39, 19};
        int[] lastOf15 = {14, 14, 14, 6, 14, 29, 14};
        for (int kind = 0; kind < 7; kind++) {
            Check.due("kind " + kind, lastKnown(kind, ""), last[kind]);
            Check.due("kind " + kind + " of 15", lastKnown(kind, "days 15"), lastOf15[kind]);
            Check.due("kind " + kind + " of 0", lastKnown(kind, "days 0"), -1);
        }
    }

    private static int lastKnown(int kind, String text) {
        ToldMeThat x = new ToldMeThat();
        x.hearer(kind, 0);
        x.story(5, 5);
        if (!text.isEmpty()) {
            Check.house(x, text);
        }
        x.pass(50);
        x.had(0, 0, 1);
        for (int day = 0; day < 60; day++) {
            if (x.of(0, 20) == 0) {
                return day - 1;
            }
            x.pass(1);
        }
        return 60;
    }

    private static void would() {
        ToldMeThat x = allKinds();
        x.story(12, 1);
        x.had(1, 0, 1);
        x.had(2, 0, 2);
        Check.due("would(0, 63, 0)", x.would(0, 63, 0), 12 + 0 - 10 + 12 + 12 + 12);
        Check.due("would(0, 63, 1)", x.would(0, 63, 1), 2);
        Check.due("would(0, 5, 0)", x.would(0, 5, 0), 2);
        Check.due("would(0, 5, 1)", x.would(0, 5, 1), 1);
        Check.due("would(0, 0, 0)", x.would(0, 0, 0), 0);
        Check.due("would(0, 0, 1)", x.would(0, 0, 1), 0);
        Check.due("would(0, 64, 2)", x.would(0, 64, 2), -10001);
        Check.due("would(0, 1, -1)", x.would(0, 1, -1), -10001);
        Check.due("would(1, 64, 0)", x.would(1, 64, 0), -10001);
        Check.due("would(0, 64, 0)", x.would(0, 64, 0), -10002);
        Check.due("would(0, -1, 1)", x.would(0, -1, 1), -10002);
        Check.due("nothing is told", x.of(0, 10), 0);
    }

    private static void best() {
        ToldMeThat x = new ToldMeThat();
        Check.due("best(0, 2)", x.best(0, 2), -10001);
        Check.due("best(1, 2)", x.best(1, 2), -10001);
        Check.due("best(1, 0)", x.best(1, 0), -10002);
        Check.due("best(0, 0)", x.best(0, 0), -10005);
        Check.due("best(0, 1)", x.best(0, 1), -10005);
        x.story(3, 1);
        x.story(9, 1);
        x.story(9, 1);
        x.hearer(0, 0);
        x.hearer(0, 0);
        Check.due("best(0, 0) of nobody", x.best(0, 0), 0);
        Check.due("best(0, 1) of nobody", x.best(0, 1), 0);
        Check.due("the first of several", x.best(3, 0), 1);
        Check.due("how much", x.best(3, 1), 18);
        x.tell(1, 1);
        Check.due("the next", x.best(3, 0), 2);
        Check.due("to the other", x.best(2, 0), 1);
        x.tell(2, 3);
        x.tell(0, 3);
        Check.due("all are known", x.best(1, 0), 0);
        Check.due("by which one is least sour", x.best(3, 1), 9 - 5);
        Check.due("to one that knows all", x.best(1, 1), -5);
        Check.due("best(4, 0)", x.best(4, 0), -10002);
        Check.due("best(-1, 0)", x.best(-1, 0), -10002);
        Check.due("best(0, -1)", x.best(0, -1), -10001);
    }

    private static void fresh() {
        ToldMeThat x = new ToldMeThat();
        Check.due("fresh(0)", x.fresh(0), ToldMeThat.NONE);
        x.story(5, 5);
        Check.due("fresh to nobody", x.fresh(0), 0);
        for (int h = 0; h < 6; h++) {
            x.hearer(3 * (h % 2), 0);
        }
        Check.due("fresh to all", x.fresh(0), 63);
        x.tell(0, 0b101011);
        Check.due("fresh to the others", x.fresh(0), 0b010100);
        x.pass(10);
        Check.due("the FORGETFUL forget", x.fresh(0), 0b111110);
        x.tell(0, 4);
        x.pass(10);
        Check.due("each by its own day", x.fresh(0), 0b111011);
        Check.due("fresh(1)", x.fresh(1), ToldMeThat.NONE);
        Check.due("fresh(-1)", x.fresh(-1), ToldMeThat.NONE);
    }

    private static void again() {
        ToldMeThat x = new ToldMeThat();
        x.story(5, 5);
        x.hearer(0, 0);
        x.hearer(5, 0);
        x.hearer(6, 0);
        Check.due("again(1, 8)", x.again(1, 8), ToldMeThat.NONE);
        Check.due("again(-1, 0)", x.again(-1, 0), ToldMeThat.NONE);
        Check.due("again(0, 8)", x.again(0, 8), ToldMeThat.BAD);
        Check.due("again(0, -1)", x.again(0, -1), ToldMeThat.BAD);
        Check.due("never told", x.again(0, 7), 0);
        x.tell(0, 7);
        Check.due("HEARER", x.again(0, 1), 20);
        Check.due("CHILDISH", x.again(0, 2), 40);
        Check.due("both", x.again(0, 3), 40);
        Check.due("nobody", x.again(0, 0), 0);
        x.row(2, 2, 3);
        Check.due("TOLD: 6 on day 6", x.again(0, 4), 6);
        x.pass(1);
        Check.due("a day later", x.again(0, 4), 5);
        Check.due("HEARER a day later", x.again(0, 1), 19);
        Check.due("on day 20 TOLD and HEARER", x.again(0, 5), 19);
        x.row(2, 2, 9);
        Check.due("by day 2 of 9", x.again(0, 4), 1);
        Check.house(x, "days 50");
        Check.due("CHILDISH, 100 less a day", x.again(0, 2), 99);
        x.tell(0, 2);
        Check.due("100 days are too many", x.again(0, 2), -5);
        Check.house(x, "days 51");
        Check.due("not by then", x.again(0, 2), -5);
        Check.due("nothing changes", x.told(0), 1);
    }
}
