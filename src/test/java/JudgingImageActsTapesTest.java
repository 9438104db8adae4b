/** Promises 31 to 41: judging, the image, acts, counts, tapes. */
public final class JudgingImageActsTapesTest {
    private static final int NOTHING = -11, CAST = -12, PLACE = -13, SIZE = -14;
    private static final int BYTES = 0, SHORTS = 1, INTS = 2, LONGS = 3, BOOLEANS = 4;

    public static void main(String[] args) {
        judge();
        judgeRefuses();
        imageAndUndo();
        whatAnImageHolds();
        whatAnImageLeaves();
        acts();
        actsOfNobody();
        traces();
        taken();
        count();
        tape();
        item();
        read();
        shift();
        shiftRefuses();
        Check.end("JudgingImageActsTapesTest");
    }

    private static ToldMeThat room(int hearers, int stories) {
        ToldMeThat x = new ToldMeThat();
        for (int h = 0; h < hearers; h++) {
            x.hearer(0, 0);
        }
        for (int s = 0; s < stories; s++) {
            x.story(10, 1);
        }
        return x;
    }

    private static void judge() {
        ToldMeThat x = room(2, 3);
        x.had(0, 0, 4);
        x.had(0, 1, 5);
        x.had(0, 2, 6);
        x.had(1, 0, 9);
        Check.due("holds nothing", x.judge(0, 0), 100);
        Check.due("holds nothing", x.judge(0, 7), 100);
        x.tape(0, INTS, 6);
        Check.due("otherwise at once", x.judge(0, 0), 0);
        x.item(0, 2, 4);
        x.item(0, 3, 5);
        x.item(0, 4, 7);
        Check.due("the third is otherwise", x.judge(0, 2), 2);
        x.item(0, 4, 6);
        Check.due("none", x.judge(0, 2), -5);
        x.item(0, 3, -5);
        Check.due("the second", x.judge(0, 2), 1);
        x.item(0, 5, 4);
        Check.due("one looked at", x.judge(0, 5), 101);
        Check.due("none looked at", x.judge(0, 6), 100);
        x.item(0, 4, 4);
        x.item(0, 5, 5);
        Check.due("two looked at", x.judge(0, 4), 102);
        Check.due("far beyond", x.judge(0, Integer.MAX_VALUE), 100);
        Check.due("below 0", x.judge(0, -1), 100);
        Check.due("far below 0", x.judge(0, Integer.MIN_VALUE), 100);
        x.tape(0, INTS, 3);
        Check.due("0 told", x.judge(0, 0), 0);
        ToldMeThat alone = room(1, 1);
        alone.tape(5, INTS, 1);
        alone.item(5, 0, 3);
        alone.had(0, 0, 3);
        Check.due("TIMES of the only one", alone.judge(5, 0), -5);
        ToldMeThat nobody = room(0, 2);
        nobody.tape(5, INTS, 2);
        Check.due("TIMES 0 of nobody", nobody.judge(5, 0), -5);
        nobody.item(5, 1, 1);
        Check.due("not 1", nobody.judge(5, 0), 1);
    }

    private static void judgeRefuses() {
        ToldMeThat x = room(1, 1);
        Check.due("judge(6, 0)", x.judge(6, 0), ToldMeThat.NONE);
        Check.due("judge(-1, 0)", x.judge(-1, 0), ToldMeThat.NONE);
        int[] others = {BYTES, SHORTS, LONGS, BOOLEANS};
        for (int sort : others) {
            x.tape(1, sort, 5);
            Check.due("sort " + sort, x.judge(1, 0), CAST);
            Check.due("sort " + sort + " below 0", x.judge(1, -1), CAST);
        }
        ToldMeThat y = room(1, 0);
        Check.due("no stories", y.judge(1, 0), -5);
        Check.due("no stories, below 0", y.judge(1, -1), -5);
        y.tape(1, INTS, 0);
        Check.due("no stories in nothing", y.judge(1, 5), -5);
        y.tape(1, BYTES, 5);
        Check.due("no stories by bytes", y.judge(1, 0), CAST);
    }

    private static void imageAndUndo() {
        ToldMeThat x = room(2, 3);
        Check.due("no image", x.undo(), ToldMeThat.STATE);
        Check.due("image()", x.image(), 2);
        x.hearer(3, 3);
        Check.due("undo()", x.undo(), 2);
        Check.due("of(2, 0)", x.of(2, 0), ToldMeThat.NONE);
        x.hearer(2, 5);
        Check.due("another one", x.of(2, 0), 2);
        Check.due("its v", x.of(2, 1), 5);
        Check.due("undo() again", x.undo(), 2);
        x.hearer(6, 7);
        Check.due("image() again", x.image(), 3);
        x.tell(1, 7);
        Check.due("undo()", x.undo(), 3);
        Check.due("TOLD is there", x.of(2, 0), 6);
        Check.due("and has not had it", x.of(2, 11), 0);
        ToldMeThat empty = new ToldMeThat();
        Check.due("image of nothing", empty.image(), 0);
        empty.story(5, 5);
        Check.due("undo to nothing", empty.undo(), 0);
        Check.due("count(1)", empty.count(1), 0);
    }

    private static void whatAnImageHolds() {
        ToldMeThat x = room(1, 2);
        x.hearer(6, 4);
        x.row(1, 0, 2);
        x.had(1, 0, 3);
        Check.house(x, "days 30;fun 2 h<9");
        x.pass(4);
        x.see(0, 1);
        x.book(1);
        x.image();
        for (int round = 0; round < 3; round++) {
            x.good(0, 30);
            x.story(7, 7);
            x.pass(8);
            x.had(1, 0, 50);
            x.had(0, 1, 2);
            x.row(1, 0, 9);
            x.row(1, 1, 8);
            x.see(-1, 0);
            x.see(1, 2);
            x.see(1, 2);
            x.book(-1);
            x.book(0);
            x.book(0);
            Check.due("a house", Check.house(x, "days 3" + round), round + 1);
            x.undo();
            Check.due("GOOD", x.at(0, 0), 10);
            Check.due("STORIES", x.count(1), 2);
            Check.due("DAY", x.told(0), 4);
            Check.due("TIMES", x.of(1, 10), 3);
            Check.due("TIMES of another", x.of(0, 11), 0);
            Check.due("the last time", x.again(0, 2), 12);
            Check.due("FACES", x.count(3), 1);
            Check.due("whose", x.guess(0), 1);
            Check.due("not whose", x.guess(1), 0);
            Check.due("the BOOK", x.count(4), 1);
            Check.due("which HOUSE holds", x.told(1), 30);
            Check.due("its MOOD", x.of(0, 30), 1002);
        }
        Check.due("ROW", x.row(1, 0, 3), 2);
        Check.due("ROW", x.row(1, 1, 3), 1);
        x.tell(1, 3);
        Check.due("LOOKED at by 1, not by 0", x.looked(), 0);
    }

    private static void whatAnImageLeaves() {
        ToldMeThat x = room(1, 1);
        x.image();
        x.feed(104);
        x.tape(0, INTS, 3);
        x.item(0, 1, 77);
        x.act(0, 0, 5);
        x.undo();
        Check.due("THE TEXT stays", x.count(5), 1);
        Check.due("the TAPES stay", x.read(0, 1), 77);
        Check.due("THE TRACE stays", x.trace(0), 10);
        Check.due("a fault", x.house(), -10);
        Check.house(x, "days 30");
        Check.due("days", x.told(1), 30);
        x.undo();
        Check.due("no HOUSE held", x.told(1), 20);
        Check.due("the HOUSES stay", x.count(2), 1);
        Check.due("the next one", Check.house(x, "days 31"), 1);
        Check.due("days", x.told(1), 31);
    }

    private static void expectAct(ToldMeThat x, int hearer, int act, int value, int[] bodies) {
        String call = "act(" + hearer + ", " + act + ", 7)";
        Check.due(call, x.act(hearer, act, 7), value);
        Check.due(call + " ran", x.count(6), bodies.length);
        for (int i = 0; i < bodies.length; i++) {
            Check.due(call + " body " + i, x.trace(i), bodies[i]);
        }
        Check.due(call + " no more", x.trace(bodies.length), ToldMeThat.NONE);
    }

    /** HEARER i of KIND i, or of i + 1 in the other room; v 5. */
    private static void acts() {
        ToldMeThat x = new ToldMeThat();
        ToldMeThat y = new ToldMeThat();
        for (int kind = 0; kind < 6; kind++) {
            x.hearer(kind, 5);
            y.hearer(kind + 1, 5);
        }
        expectAct(x, 0, 0, 7, new int[] {10});
        expectAct(x, 0, 1, 2, new int[] {11, 10});
        expectAct(x, 0, 2, 4, new int[] {12, 11, 10});
        expectAct(x, 1, 0, 8, new int[] {10});
        expectAct(x, 1, 1, 3 ^ 6, new int[] {20, 11, 10});
        expectAct(x, 1, 2, 10, new int[] {12, 20, 11, 10});
        expectAct(x, 2, 0, 23, new int[] {30, 10});
        expectAct(x, 2, 1, 18, new int[] {11, 30, 10});
        expectAct(x, 2, 2, 36, new int[] {12, 11, 30, 10});
        expectAct(x, 3, 0, 10, new int[] {10});
        expectAct(x, 3, 1, 5, new int[] {11, 10});
        expectAct(x, 3, 2, 10 - 1, new int[] {40, 12, 11, 10, 11, 10});
        expectAct(x, 4, 0, -11, new int[] {50, 10});
        expectAct(x, 4, 1, -17 ^ 6, new int[] {51, 20, 11, 50, 10});
        expectAct(x, 4, 2, 2 * (-17 ^ 6), new int[] {12, 51, 20, 11, 50, 10});
        expectAct(x, 5, 0, 26, new int[] {30, 10});
        expectAct(x, 5, 1, 21, new int[] {11, 30, 10});
        expectAct(x, 5, 2, 2 * (2 * 3 + 5 - 5), new int[] {60, 12, 11, 30, 10});
        expectAct(y, 5, 0, 12 ^ 5, new int[] {71, 10});
        expectAct(y, 5, 1, (12 ^ 5) - 5 + 7, new int[] {70, 11, 71, 10, 10});
        expectAct(y, 5, 2, 2 * ((12 ^ 5) - 5 + 7) + ((6 ^ 5) - 5 + 7),
            new int[] {40, 12, 70, 11, 71, 10, 10, 70, 11, 71, 10, 10});
        Check.due("x wraps", x.act(2, 0, Integer.MAX_VALUE), Integer.MAX_VALUE * 3 + 2);
        Check.due("x wraps", x.act(4, 2, Integer.MIN_VALUE),
            2 * ((-(Integer.MIN_VALUE + 1 + 4) - 5) ^ 6));
    }

    private static void actsOfNobody() {
        ToldMeThat x = room(1, 0);
        int[][] none = {{1, 0}, {-1, 0}, {6, 2}, {0, 3}, {0, -1}, {Integer.MAX_VALUE, 1},
            {0, Integer.MIN_VALUE}};
        for (int[] n : none) {
            Check.due("act()", x.act(0, 2, 3), 6);
            Check.due("ran", x.count(6), 3);
            Check.due("act() of none", x.act(n[0], n[1], 3), 0);
            Check.due("no TRACE then", x.trace(0), ToldMeThat.NONE);
            Check.due("none ran", x.count(6), 0);
        }
    }

    private static void traces() {
        ToldMeThat x = room(1, 0);
        x.act(0, 1, 1);
        Check.due("trace(-1)", x.trace(-1), ToldMeThat.NONE);
        Check.due("trace(0)", x.trace(0), 11);
        Check.due("trace(1)", x.trace(1), 10);
        Check.due("trace(2)", x.trace(2), ToldMeThat.NONE);
        Check.due("trace(20)", x.trace(20), ToldMeThat.NONE);
        Check.due("trace(MAX)", x.trace(Integer.MAX_VALUE), ToldMeThat.NONE);
        x.tell(0, 1);
        Check.due("other calls leave it", x.trace(0), 11);
        x.act(0, 0, 1);
        Check.due("the latest act()", x.trace(0), 10);
        Check.due("is shorter", x.trace(1), ToldMeThat.NONE);
    }

    private static void taken() {
        ToldMeThat x = new ToldMeThat();
        ToldMeThat y = new ToldMeThat();
        for (int kind = 0; kind < 6; kind++) {
            x.hearer(kind, 0);
        }
        y.hearer(6, 0);
        // Bits of the KINDS that one of each KIND may be taken for.
        int[] for7 = {0b1, 0b11, 0b101, 0b1001, 0b10011, 0b100101, 0b1001001};
        for (int kind = 0; kind < 7; kind++) {
            for (int k = 0; k < 7; k++) {
                int got = kind < 6 ? x.taken(kind, k) : y.taken(0, k);
                Check.due(kind + " taken for " + k, got, (for7[kind] >> k & 1) == 1 ? kind : CAST);
            }
        }
        Check.due("taken(0, 7)", x.taken(0, 7), ToldMeThat.BAD);
        Check.due("taken(0, -1)", x.taken(0, -1), ToldMeThat.BAD);
        Check.due("taken(6, 7)", x.taken(6, 7), ToldMeThat.BAD);
        Check.due("taken(6, 0)", x.taken(6, 0), NOTHING);
        Check.due("taken(-1, 0)", x.taken(-1, 0), NOTHING);
    }

    private static void count() {
        ToldMeThat x = room(3, 4);
        Check.house(x, "days 5");
        x.see(0, 1);
        x.see(0, 1);
        for (int i = 0; i < 5; i++) {
            x.book(0);
        }
        for (int i = 0; i < 6; i++) {
            x.feed(9);
        }
        x.act(0, 1, 0);
        int[] many = {3, 4, 1, 2, 5, 6, 2};
        for (int what = 0; what < 7; what++) {
            Check.due("count(" + what + ")", x.count(what), many[what]);
        }
        Check.due("count(7)", x.count(7), ToldMeThat.BAD);
        Check.due("count(-1)", x.count(-1), ToldMeThat.BAD);
    }

    private static void tape() {
        ToldMeThat x = new ToldMeThat();
        Check.due("tape(6, 0, 1)", x.tape(6, 0, 1), ToldMeThat.NONE);
        Check.due("tape(-1, 9, -1)", x.tape(-1, 9, -1), ToldMeThat.NONE);
        Check.due("tape(0, 5, 1)", x.tape(0, 5, 1), ToldMeThat.BAD);
        Check.due("tape(0, -2, 1)", x.tape(0, -2, 1), ToldMeThat.BAD);
        Check.due("tape(0, 5, -1)", x.tape(0, 5, -1), ToldMeThat.BAD);
        Check.due("tape(0, 0, 61)", x.tape(0, 0, 61), ToldMeThat.BAD);
        Check.due("tape(0, 0, MAX)", x.tape(0, 0, Integer.MAX_VALUE), ToldMeThat.BAD);
        Check.due("tape(0, 0, -1)", x.tape(0, 0, -1), SIZE);
        Check.due("tape(0, 4, MIN)", x.tape(0, 4, Integer.MIN_VALUE), SIZE);
        Check.due("nothing is there", x.item(0, 0, 1), NOTHING);
        Check.due("tape(0, 3, 60)", x.tape(0, 3, 60), 1);
        Check.due("item(0, 59, 5)", x.item(0, 59, 5), 1);
        Check.due("read(0, 59)", x.read(0, 59), 5);
        Check.due("tape(0, 3, -5)", x.tape(0, 3, -5), SIZE);
        Check.due("refused: as it was", x.read(0, 59), 5);
        Check.due("anew", x.tape(0, 3, 60), 1);
        Check.due("all 0", x.read(0, 59), 0);
        x.item(0, 0, 8);
        x.tape(0, 2, 2);
        Check.due("the first one too", x.read(0, 0), 0);
        Check.due("tape(0, 0, 0)", x.tape(0, 0, 0), 1);
        Check.due("a row of none", x.item(0, 0, 1), PLACE);
        Check.due("nothing, by -7", x.tape(0, -1, -7), 1);
        Check.due("nothing is there", x.item(0, 0, 1), NOTHING);
        Check.due("read", x.read(0, 0), ToldMeThat.NO);
    }

    private static void item() {
        ToldMeThat x = new ToldMeThat();
        for (int sort = 0; sort < 5; sort++) {
            x.tape(sort, sort, 3);
        }
        long[] values = {0, 1, -1, 128, 255, 256, 32768, 65536, 1L << 31, 1L << 32,
            0x123456789ABCDEFL, Long.MIN_VALUE, Long.MAX_VALUE};
        for (long v : values) {
            for (int sort = 0; sort < 5; sort++) {
                Check.due("item " + v, x.item(sort, 1, v), 1);
                Check.due("its neighbours", x.read(sort, 0) + x.read(sort, 2), 0);
            }
            Check.due("byte " + v, x.read(0, 1), (byte) v);
            Check.due("short " + v, x.read(1, 1), (short) v);
            Check.due("int " + v, x.read(2, 1), (int) v);
            Check.due("long " + v, x.read(3, 1), v);
            Check.due("boolean " + v, x.read(4, 1), v == 0 ? 0 : 1);
        }
        Check.due("item(6, 0, 0)", x.item(6, 0, 0), ToldMeThat.NONE);
        Check.due("item(-1, 0, 0)", x.item(-1, 0, 0), ToldMeThat.NONE);
        Check.due("item(5, -1, 0)", x.item(5, -1, 0), NOTHING);
        Check.due("item(0, 3, 0)", x.item(0, 3, 0), PLACE);
        Check.due("item(0, -1, 0)", x.item(0, -1, 0), PLACE);
    }

    private static void read() {
        ToldMeThat x = new ToldMeThat();
        x.tape(2, LONGS, 4);
        x.item(2, 3, -9);
        Check.due("read(2, 3)", x.read(2, 3), -9);
        Check.due("read(2, 0)", x.read(2, 0), 0);
        Check.due("read(2, 4)", x.read(2, 4), ToldMeThat.NO);
        Check.due("read(2, -1)", x.read(2, -1), ToldMeThat.NO);
        Check.due("read(1, 0)", x.read(1, 0), ToldMeThat.NO);
        Check.due("read(6, 0)", x.read(6, 0), ToldMeThat.NO);
        Check.due("read(-1, 0)", x.read(-1, 0), ToldMeThat.NO);
    }

    private static void expectItems(ToldMeThat x, int tape, long[] items) {
        for (int i = 0; i < items.length; i++) {
            Check.due("item " + i + " of tape " + tape, x.read(tape, i), items[i]);
        }
        Check.due("its end", x.read(tape, items.length), ToldMeThat.NO);
    }

    private static void shift() {
        ToldMeThat x = new ToldMeThat();
        x.tape(0, BYTES, 6);
        x.tape(1, BYTES, 4);
        for (int i = 0; i < 6; i++) {
            x.item(0, i, i + 1);
        }
        Check.due("to another", x.shift(0, 3, 1, 1, 3), 3);
        expectItems(x, 1, new long[] {0, 4, 5, 6});
        expectItems(x, 0, new long[] {1, 2, 3, 4, 5, 6});
        Check.due("up the same", x.shift(0, 0, 0, 1, 4), 4);
        expectItems(x, 0, new long[] {1, 1, 2, 3, 4, 6});
        Check.due("down the same", x.shift(0, 2, 0, 0, 4), 4);
        expectItems(x, 0, new long[] {2, 3, 4, 6, 4, 6});
        Check.due("all of it", x.shift(1, 0, 0, 2, 4), 4);
        expectItems(x, 0, new long[] {2, 3, 0, 4, 5, 6});
        Check.due("none at the ends", x.shift(0, 6, 1, 4, 0), 0);
        expectItems(x, 1, new long[] {0, 4, 5, 6});
    }

    private static void shiftRefuses() {
        ToldMeThat x = new ToldMeThat();
        x.tape(0, BYTES, 6);
        x.tape(1, BYTES, 4);
        x.tape(2, BOOLEANS, 4);
        Check.due("shift(6, 0, 0, 0, 1)", x.shift(6, 0, 0, 0, 1), ToldMeThat.NONE);
        Check.due("shift(0, 0, 6, 0, 1)", x.shift(0, 0, 6, 0, 1), ToldMeThat.NONE);
        Check.due("shift(3, 0, -1, 0, 1)", x.shift(3, 0, -1, 0, 1), ToldMeThat.NONE);
        Check.due("shift(3, 0, 0, 0, -1)", x.shift(3, 0, 0, 0, -1), NOTHING);
        Check.due("shift(0, 0, 3, 0, 1)", x.shift(0, 0, 3, 0, 1), NOTHING);
        Check.due("shift(0, 0, 2, 0, 9)", x.shift(0, 0, 2, 0, 9), CAST);
        int max = Integer.MAX_VALUE;
        int[][] places = {{-1, 0, 1}, {0, -1, 1}, {0, 0, -1}, {6, 0, 1}, {0, 4, 1}, {7, 0, 0},
            {0, 5, 0}, {0, 0, 5}, {2, 0, 5}, {3, 2, 3}, {max, 0, 1}, {0, max, 1}, {1, 1, max},
            {max, max, max}, {Integer.MIN_VALUE, 0, 1}, {0, 0, Integer.MIN_VALUE}};
        for (int[] p : places) {
            Check.due("from " + p[0] + " to " + p[1] + ", " + p[2],
                x.shift(0, p[0], 1, p[1], p[2]), PLACE);
        }
    }
}
