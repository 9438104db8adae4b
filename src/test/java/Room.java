import java.util.ArrayList;
import java.util.List;

/** Rooms to begin a test in, and all that can be told of one. Built and told: 512 calls at most. */
final class Room {
    static final int BYTES = 0, SHORTS = 1, INTS = 2, LONGS = 3, BOOLEANS = 4;

    /** A call, or some, on an object: what the last one answers. */
    interface Call {
        long on(ToldMeThat x);
    }

    /** How a room is built, always the same. */
    interface Plan {
        ToldMeThat build();
    }

    private Room() { }

    static ToldMeThat empty() {
        return new ToldMeThat();
    }

    /** So many HEARERS of the KIND, v 0, and STORIES of GOOD 10 and 3 minutes. */
    static ToldMeThat of(int hearers, int kind, int stories) {
        ToldMeThat x = new ToldMeThat();
        for (int h = 0; h < hearers; h++) {
            x.hearer(kind, 0);
        }
        for (int s = 0; s < stories; s++) {
            x.story(10, 3);
        }
        return x;
    }

    /** One HEARER of the KIND with v, one STORY of the GOOD. */
    static ToldMeThat one(int kind, int v, int good) {
        ToldMeThat x = new ToldMeThat();
        x.hearer(kind, v);
        x.story(good, 1);
        return x;
    }

    /** A HEARER, a FORGETFUL one, a TOLD one; three STORIES; a little of all else. */
    static ToldMeThat some() {
        ToldMeThat x = new ToldMeThat();
        x.hearer(0, 1);
        x.hearer(3, 2);
        x.story(10, 3);
        x.story(20, 4);
        x.tape(0, INTS, 3);
        x.tape(1, INTS, 2);
        x.tape(2, BYTES, 3);
        x.tape(3, INTS, 0);
        x.item(0, 1, 7);
        x.image();
        x.hearer(6, 3);
        x.story(5, 5);
        x.row(2, 1, 4);
        x.pass(6);
        x.had(0, 1, 2);
        x.had(2, 2, 3);
        x.pass(3);
        x.tell(0, 6);
        Check.house(x, "fun 3 t>0;days 15;face 4");
        x.see(0, 5);
        x.see(2, 3);
        x.book(1);
        x.book(2);
        x.act(2, 1, 5);
        feed(x, "days 3");
        return x;
    }

    /** Six HEARERS, eight STORIES, six HOUSES, six FACES, ten in the BOOK; TEXT of six bytes. */
    static ToldMeThat full() {
        ToldMeThat x = new ToldMeThat();
        for (int h = 0; h < 6; h++) {
            x.hearer(h + 1, h);
        }
        for (int s = 0; s < 8; s++) {
            x.story(10 + s, 1 + s);
        }
        x.image();
        for (int i = 0; i < 6; i++) {
            Check.house(x, "days " + (i + 15));
            x.see(i, 1 << i);
        }
        feed(x, "face 7");
        for (int i = 0; i < 10; i++) {
            x.book(i % 8);
        }
        x.pass(2);
        x.tell(0, 63);
        x.tell(7, 42);
        x.row(5, 3, 2);
        x.tape(5, LONGS, 2);
        x.act(3, 2, 9);
        return x;
    }

    /** As some(), but THE TEXT is full: 100 bytes, and a HOUSE. */
    static ToldMeThat fullText() {
        ToldMeThat x = some();
        feed(x, ";fun 1 " + "h=1|".repeat(21) + "h=2");
        return x;
    }

    /** As some(), but on DAY 9999. */
    static ToldMeThat lastDay() {
        ToldMeThat x = some();
        for (int i = 0; i < 100; i++) {
            x.pass(99);
        }
        x.pass(90);
        x.tell(1, 1);
        return x;
    }

    static void feed(ToldMeThat x, String text) {
        for (int i = 0; i < text.length(); i++) {
            x.feed(text.charAt(i));
        }
    }

    /** All that can be told of a room, a line each. It is used up by that. */
    static List<String> tell(ToldMeThat x) {
        List<String> all = new ArrayList<>();
        tellCounts(x, all);
        tellHearers(x, all);
        for (int i = 0; i < 13; i++) {
            all.add("trace(" + i + ") " + x.trace(i));
        }
        for (int t = 0; t < 6; t++) {
            for (int i = 0; i < 4; i++) {
                all.add("read(" + t + ", " + i + ") " + x.read(t, i));
            }
        }
        all.add("looked() " + x.looked());
        // From here on what is told is changed by the telling.
        for (int h = 0; h < 6; h++) {
            for (int part = 0; part < 4 && x.of(h, 0) == 6; part++) {
                all.add("row(" + h + ", " + part + ", 1) " + x.row(h, part, 1));
            }
        }
        all.add("house() " + x.house() + ", days " + x.told(1) + ", face " + x.told(2));
        all.add("undo() " + x.undo());
        tellCounts(x, all);
        for (int h = 0; h < 6; h++) {
            all.add("image: of(" + h + ", 0) " + x.of(h, 0) + ", v " + x.of(h, 1));
            for (int s = 0; s < 8; s++) {
                all.add("image: of(" + h + ", 10 + " + s + ") " + x.of(h, 10 + s));
            }
        }
        return all;
    }

    private static void tellCounts(ToldMeThat x, List<String> all) {
        for (int what = 0; what < 7; what++) {
            all.add("count(" + what + ") " + x.count(what));
        }
        for (int what = 0; what < 3; what++) {
            all.add("told(" + what + ") " + x.told(what));
        }
        for (int s = 0; s < 8; s++) {
            all.add("at(" + s + ", ..) " + x.at(s, 0) + ", " + x.at(s, 1));
        }
    }

    private static void tellHearers(ToldMeThat x, List<String> all) {
        for (int h = 0; h < 6; h++) {
            all.add("of(" + h + ", ..) " + x.of(h, 0) + ", " + x.of(h, 1) + ", " + x.of(h, 30));
            all.add("guess(" + h + ") " + x.guess(h));
            for (int s = 0; s < 8 && x.of(h, 10 + s) >= 0; s++) {
                all.add("of(" + h + ", 10 + " + s + ") " + x.of(h, 10 + s));
                // By when it will not be known the last time is told.
                all.add("again(" + s + ", " + (1 << h) + ") " + x.again(s, 1 << h));
            }
        }
    }
}
