/** Promises 19 to 24: evenings, coffee, what to keep, suppers, seats, what one can be spared. */
public final class EveningsSuppersSeatsTest {
    public static void main(String[] args) {
        eveningRefuses();
        evening();
        coffee();
        keepRefuses();
        keep();
        suppersRefuse();
        suppers();
        suppersGoOn();
        seatsRefuse();
        seats();
        spared();
        Check.end("EveningsSuppersSeatsTest");
    }

    /** One HEARER for each kind told, and stories of the goods, each as long as told. */
    private static ToldMeThat room(int[] kinds, int[] goods, int[] minutes) {
        ToldMeThat x = new ToldMeThat();
        for (int kind : kinds) {
            x.hearer(kind, 0);
        }
        for (int s = 0; s < goods.length; s++) {
            x.story(goods[s], minutes[s]);
        }
        return x;
    }

    private static void eveningRefuses() {
        ToldMeThat x = room(new int[] {0, 0}, new int[] {5}, new int[] {2});
        Check.due("evening(4, 0, 2)", x.evening(4, 0, 2), -10001);
        Check.due("evening(1, 5, -1)", x.evening(1, 5, -1), -10001);
        Check.due("evening(4, 5, 0)", x.evening(4, 5, 0), -10002);
        Check.due("evening(-1, 5, 0)", x.evening(-1, 5, 0), -10002);
        Check.due("evening(3, 0, 0)", x.evening(3, 0, 0), -10002);
        Check.due("evening(3, 41, 1)", x.evening(3, 41, 1), -10002);
        Check.due("evening(3, 1, 0)", x.evening(3, 1, 0), 0);
        Check.due("evening(3, 2, 0)", x.evening(3, 2, 0), 1);
        Check.due("evening(3, 40, 1)", x.evening(3, 40, 1), 10);
    }

    private static void evening() {
        ToldMeThat x = room(new int[] {0, 1}, new int[] {10, 7, 6, 3},
            new int[] {6, 4, 3, 2});
        Check.due("all of 15", x.evening(3, 15, 0), 15);
        Check.due("how much", x.evening(3, 15, 1), 52);
        Check.due("7 and 6 beat 10 by 7 minutes", x.evening(1, 7, 0), 6);
        Check.due("how much", x.evening(1, 7, 1), 13);
        Check.due("10 and 3 by 8", x.evening(1, 8, 1), 13);
        Check.due("the least as bits of 6 and 9", x.evening(1, 8, 0), 6);
        Check.due("7, 6 and 3 by 9, or 10 and 6", x.evening(1, 9, 0), 5);
        Check.due("nothing for nobody", x.evening(0, 40, 0), 0);
        x.tell(0, 1);
        Check.due("what is known is left", x.evening(1, 40, 0), 14);
        Check.due("but not with another", x.evening(3, 40, 0), 15);
        Check.due("how much", x.evening(3, 40, 1), 26 + 26 - 10 - 5);
        x.tell(0, 2);
        Check.due("the sour one", x.evening(3, 40, 0), 14);
        x.tell(1, 1);
        x.good(1, 5);
        Check.due("worth nothing: the least as bits", x.evening(3, 40, 0), 12);
    }

    private static void coffee() {
        ToldMeThat x = room(new int[] {0, 0}, new int[] {10, 30, 5, 6},
            new int[] {9, 9, 9, 9});
        Check.due("coffee(4, 2)", x.coffee(4, 2), -10001);
        Check.due("coffee(3, -1)", x.coffee(3, -1), -10001);
        Check.due("coffee(4, 0)", x.coffee(4, 0), -10002);
        Check.due("coffee(-1, 0)", x.coffee(-1, 0), -10002);
        Check.due("all", x.coffee(3, 0), 4);
        Check.due("how much", x.coffee(3, 1), 102);
        Check.due("nobody laughs", x.coffee(0, 0), 0);
        Check.due("nobody laughs", x.coffee(0, 1), 0);
        x.tell(1, 1);
        x.tell(2, 1);
        Check.due("0 is not above 0", x.coffee(3, 0), 3);
        x.good(2, 6);
        Check.due("1 is", x.coffee(3, 0), 4);
        x.good(2, 5);
        Check.due("how much", x.coffee(3, 1), 20 + 25 + 12);
        Check.due("asking changes nothing", x.of(0, 10), 0);
        Check.due("without stories", new ToldMeThat().coffee(0, 1), 0);
    }

    private static void keepRefuses() {
        ToldMeThat x = room(new int[] {0, 0}, new int[] {5}, new int[] {2});
        Check.due("keep(4, 4, 0, 2)", x.keep(4, 4, 0, 2), -10001);
        Check.due("keep(1, 1, 1, -1)", x.keep(1, 1, 1, -1), -10001);
        Check.due("keep(4, 1, 1, 0)", x.keep(4, 1, 1, 0), -10002);
        Check.due("keep(1, 4, 1, 0)", x.keep(1, 4, 1, 0), -10002);
        Check.due("keep(-1, 1, 1, 0)", x.keep(-1, 1, 1, 0), -10002);
        Check.due("keep(1, -1, 1, 0)", x.keep(1, -1, 1, 0), -10002);
        Check.due("keep(1, 1, 0, 0)", x.keep(1, 1, 0, 0), -10002);
        Check.due("keep(1, 1, 61, 0)", x.keep(1, 1, 61, 0), -10002);
        Check.due("one story", x.keep(1, 1, 60, 0), -10005);
        Check.due("one story", x.keep(1, 1, 1, 1), -10005);
        x.story(4, 4);
        Check.due("two stories", x.keep(1, 1, 60, 0), 1);
        Check.due("two stories", x.keep(1, 1, 60, 1), 9);
    }

    private static void keep() {
        ToldMeThat x = room(new int[] {0, 0}, new int[] {5, 9, 8}, new int[] {2, 2, 2});
        Check.due("the first of 12 and 21", x.keep(1, 2, 1, 0), 12);
        Check.due("how much", x.keep(1, 2, 1, 1), 17);
        Check.due("two at the other", x.keep(1, 3, 60, 0), 21);
        Check.due("how much", x.keep(1, 3, 60, 1), 26);
        Check.due("nobody", x.keep(0, 0, 5, 0), 1);
        Check.due("nobody", x.keep(0, 0, 5, 1), 0);
        Check.due("all for the first", x.keep(1, 0, 5, 0), 10);
        x.tell(1, 2);
        Check.due("1 is known to the other", x.keep(1, 2, 19, 0), 12);
        Check.due("2 is known too", x.keep(2, 2, 19, 1), 13);
        Check.due("and it's the first of 02 and 20", x.keep(2, 2, 19, 0), 2);
        Check.due("1 is forgotten by then", x.keep(2, 2, 20, 0), 21);
        Check.due("how much", x.keep(2, 2, 20, 1), 17);
        ToldMeThat y = room(new int[] {0}, new int[] {5, 9, 8}, new int[] {2, 2, 2});
        Check.house(y, "fun 20 w=3&s=0;fun 9 w=0&s=2");
        Check.due("by the day's mood", y.keep(1, 1, 3, 0), 20);
        Check.due("how much", y.keep(1, 1, 3, 1), 17 + 25);
        Check.due("on another day", y.keep(1, 1, 4, 0), 21);
        Check.due("a week on", y.keep(1, 1, 7, 0), 12);
        Check.due("nothing is told", y.of(0, 10), 0);
    }

    private static void suppersRefuse() {
        ToldMeThat x = room(new int[] {0, 0}, new int[] {}, new int[] {});
        Check.due("suppers(4, 0, 0, 3)", x.suppers(4, 0, 0, 3), -10001);
        Check.due("suppers(4, 0, 0, -2)", x.suppers(4, 0, 0, -2), -10001);
        Check.due("suppers(4, 1, 1, 0)", x.suppers(4, 1, 1, 0), -10002);
        Check.due("suppers(-1, 1, 1, 0)", x.suppers(-1, 1, 1, 0), -10002);
        Check.due("suppers(1, 0, 1, 0)", x.suppers(1, 0, 1, 0), -10002);
        Check.due("suppers(1, 4, 1, 0)", x.suppers(1, 4, 1, 0), -10002);
        Check.due("suppers(1, 1, 0, 0)", x.suppers(1, 1, 0, 0), -10002);
        Check.due("suppers(1, 1, 31, 0)", x.suppers(1, 1, 31, 0), -10002);
        Check.due("no stories", x.suppers(1, 1, 30, -1), -10005);
        Check.due("no stories", x.suppers(1, 1, 30, 0), -10005);
        x.story(5, 5);
        Check.due("there are fewer", x.suppers(1, 1, 30, 1), -10005);
        Check.due("there are fewer", x.suppers(1, 2, 30, 2), -10005);
        Check.due("there it is", x.suppers(1, 1, 30, 0), 0);
    }

    private static void expectRow(ToldMeThat x, int table, int d, int much, int[] row) {
        int n = row.length;
        String call = "suppers(" + table + ", " + n + ", " + d + ", ";
        Check.due(call + "-1)", x.suppers(table, n, d, -1), much);
        for (int k = 0; k < 3; k++) {
            Check.due(call + k + ")", x.suppers(table, n, d, k), k < n ? row[k] : -10005);
        }
    }

    private static void suppers() {
        ToldMeThat x = room(new int[] {0, 0, 1}, new int[] {6, 9, 4}, new int[] {1, 1, 1});
        expectRow(x, 1, 5, 9, new int[] {1});
        expectRow(x, 1, 5, 15, new int[] {0, 1});
        expectRow(x, 1, 5, 19, new int[] {0, 1, 2});
        expectRow(x, 1, 10, 24, new int[] {1, 0, 1});
        expectRow(x, 1, 20, 27, new int[] {1, 1, 1});
        expectRow(x, 1, 19, 24, new int[] {1, 0, 1});
        expectRow(x, 7, 1, 57, new int[] {0, 1, 2});
        expectRow(x, 0, 1, 0, new int[] {0, 0, 0});
        x.tell(1, 1);
        expectRow(x, 1, 10, 6 + 4 + 9, new int[] {0, 2, 1});
        expectRow(x, 1, 20, 6 + 9 + 9, new int[] {0, 1, 1});
        Check.due("nothing is told", x.of(0, 10), 0);
        Check.due("no day goes", x.told(0), 0);
    }

    private static void suppersGoOn() {
        // CHILDISH laughs on at what it knows; BORED by TIMES less.
        ToldMeThat x = room(new int[] {5, 2}, new int[] {10, 9}, new int[] {1, 1});
        expectRow(x, 1, 1, 30, new int[] {0, 0, 0});
        expectRow(x, 1, 30, 10 + 10 + 10, new int[] {0, 0, 0});
        expectRow(x, 2, 20, 10 + 9 + 9, new int[] {0, 0, 1});
        x.good(1, 8);
        expectRow(x, 2, 20, 10 + 9 + 8, new int[] {0, 0, 0});
        expectRow(x, 2, 19, 10 + 8 + 9, new int[] {0, 1, 0});
        // t is 1 and 2 as the row goes on, w is 0, 1, 2.
        ToldMeThat y = room(new int[] {5}, new int[] {10, 9}, new int[] {1, 1});
        Check.house(y, "fun 5 t=1&s=1;sour 20 w=2&s=0;sour 9 t=2");
        expectRow(y, 1, 1, 33, new int[] {0, 1, 1});
        y.pass(2);
        expectRow(y, 1, 1, 33, new int[] {1, 0, 1});
    }

    private static void seatsRefuse() {
        ToldMeThat x = room(new int[] {0, 0, 0}, new int[] {5}, new int[] {1});
        Check.due("seats(1, -2)", x.seats(1, -2), ToldMeThat.NONE);
        Check.due("seats(-1, 0)", x.seats(-1, 0), ToldMeThat.NONE);
        Check.due("seats(0, -2)", x.seats(0, -2), ToldMeThat.NONE);
        Check.due("seats(0, 6)", x.seats(0, 6), ToldMeThat.NONE);
        Check.due("seats(0, 3)", x.seats(0, 3), -5);
        Check.due("seats(0, 5)", x.seats(0, 5), -5);
        Check.due("seats(0, 2)", x.seats(0, 2), 2);
        Check.due("nobody knows it", x.seats(0, -1), 0);
        ToldMeThat empty = room(new int[] {}, new int[] {5}, new int[] {1});
        Check.due("of nobody", empty.seats(0, -1), 0);
        Check.due("of nobody", empty.seats(0, 0), -5);
    }

    private static void expectSeats(int hearers, int knowers, int served, int[] order) {
        ToldMeThat x = room(new int[hearers], new int[] {5}, new int[] {1});
        x.tell(0, knowers);
        String who = hearers + " of whom " + knowers + " know: ";
        Check.due(who + "-1", x.seats(0, -1), served);
        for (int k = 0; k < 6; k++) {
            Check.due(who + k, x.seats(0, k), k < hearers ? order[k] : -5);
        }
    }

    private static void seats() {
        expectSeats(1, 0, 0, new int[] {0});
        expectSeats(1, 1, 0, new int[] {0});
        expectSeats(2, 1, 1, new int[] {0, 1});
        expectSeats(2, 2, 1, new int[] {0, 1});
        expectSeats(3, 4, 2, new int[] {0, 1, 2});
        expectSeats(4, 1, 2, new int[] {0, 1, 2, 3});
        // The last one sits next to HEARER 0.
        expectSeats(4, 8, 2, new int[] {0, 1, 2, 3});
        expectSeats(4, 3, 2, new int[] {0, 1, 2, 3});
        expectSeats(5, 3, 3, new int[] {0, 2, 1, 3, 4});
        expectSeats(6, 3, 4, new int[] {0, 2, 3, 1, 4, 5});
        expectSeats(6, 0b101000, 4, new int[] {0, 1, 3, 2, 4, 5});
        expectSeats(6, 0b110000, 4, new int[] {0, 1, 4, 2, 3, 5});
        expectSeats(6, 63, 0, new int[] {0, 1, 2, 3, 4, 5});
        expectSeats(6, 62, 1, new int[] {0, 1, 2, 3, 4, 5});
    }

    private static void spared() {
        ToldMeThat x = room(new int[] {0, 2}, new int[] {5, 9, 2, 7}, new int[] {1, 1, 1, 1});
        Check.due("spared(2, 9)", x.spared(2, 9), -10001);
        Check.due("spared(-1, 1)", x.spared(-1, 1), -10001);
        Check.due("spared(0, -1)", x.spared(0, -1), -10002);
        Check.due("spared(0, 9)", x.spared(0, 9), -10002);
        Check.due("spared(0, 5)", x.spared(0, 5), -10005);
        Check.due("spared(0, 8)", x.spared(0, 8), -10005);
        int[] least = {0, 2, 7, 14, 23};
        for (int n = 0; n <= 4; n++) {
            Check.due("spared(0, " + n + ")", x.spared(0, n), least[n]);
        }
        x.tell(1, 2);
        x.tell(3, 2);
        int[] spare = {0, -10, -20, -18, -13};
        for (int n = 0; n <= 4; n++) {
            Check.due("spared(1, " + n + ")", x.spared(1, n), spare[n]);
        }
        Check.due("not of the other", x.spared(0, 4), 23);
        ToldMeThat y = room(new int[] {0}, new int[] {}, new int[] {});
        Check.due("none of none", y.spared(0, 0), 0);
        Check.due("one of none", y.spared(0, 1), -10005);
    }
}
