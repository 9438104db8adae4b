import java.util.Random;

/** Plays random runs of calls on the class and on PlainModel, and compares each answer. */
public final class AgainstPlainModelTest {
    private static final int RUNS = 400;
    // An object is used for 512 calls at most; one text is 111 of them at most.
    private static final int CALLS = 400, LONGEST_TEXT = 110;
    private static final String[] SCRAPS = {"fun ", "sour ", "days ", "face ", " ", ";", "|", "&",
        "!", "(", ")", "h", "k", "s", "g", "t", "w", "<", "=", ">", "0", "1", "5", "12", "99", "x"};

    private final Random random;
    private final ToldMeThat x = new ToldMeThat();
    private final PlainModel y = new PlainModel();
    private final StringBuilder calls = new StringBuilder();
    private int played = 0;

    private AgainstPlainModelTest(int seed) {
        random = new Random(seed);
    }

    public static void main(String[] args) {
        int runs = args.length > 0 ? Integer.parseInt(args[0]) : RUNS;
        for (int seed = 0; seed < runs; seed++) {
            new AgainstPlainModelTest(seed).play();
        }
        Check.end("AgainstPlainModelTest");
    }

    private void play() {
        for (int i = 0, n = random.nextInt(7); i < n; i++) {
            same("hearer", x.hearer(i, i), y.hearer(i, i), i, i);
        }
        for (int i = 0, n = random.nextInt(9); i < n; i++) {
            int good = 1 + random.nextInt(30);
            int minutes = 1 + random.nextInt(9);
            same("story", x.story(good, minutes), y.story(good, minutes), good, minutes);
        }
        for (int i = 0; i < CALLS && played < CALLS; i++) {
            oneCall();
        }
    }

    private void same(String call, long got, long want, long... args) {
        played++;
        calls.append(call).append(java.util.Arrays.toString(args)).append(' ');
        if (got != want) {
            Check.due(calls.toString(), got, want);
            System.exit(1);
        }
        Check.due(call, got, want);
    }

    /** Mostly from least to most, now and then just beside, seldom anything. */
    private int any(int least, int most) {
        int way = random.nextInt(60);
        if (way == 0) {
            return random.nextBoolean() ? least - 1 : most + 1;
        }
        if (way == 1) {
            int[] wild = {Integer.MIN_VALUE, Integer.MAX_VALUE, -2, 64, 1000, random.nextInt()};
            return wild[random.nextInt(wild.length)];
        }
        return most < least ? least : least + random.nextInt(most - least + 1);
    }

    private int aStory() {
        return any(0, y.now.stories.size() - 1);
    }

    private int aHearer() {
        return any(0, y.now.guests.size() - 1);
    }

    private int aTable() {
        return any(0, (1 << y.now.guests.size()) - 1);
    }

    private void oneCall() {
        switch (random.nextInt(8)) {
            case 0:
                change();
                break;
            case 1:
                remember();
                break;
            case 2:
                aText();
                break;
            case 3:
                onTapes();
                break;
            case 4:
                askOfOne();
                break;
            case 5:
                askOfStories();
                break;
            case 6:
                askOfTables();
                break;
            default:
                tellOn();
                break;
        }
    }

    private void change() {
        int a = any(0, 6);
        int h = aHearer();
        int s = aStory();
        int n = any(0, 9);
        switch (random.nextInt(5)) {
            case 0:
                same("hearer", x.hearer(a, n), y.hearer(a, n), a, n);
                break;
            case 1:
                n = any(1, 30);
                a = any(1, 9);
                same("story", x.story(n, a), y.story(n, a), n, a);
                break;
            case 2:
                n = any(1, 30);
                same("good", x.good(s, n), y.good(s, n), s, n);
                break;
            case 3:
                n = random.nextInt(4) == 0 ? any(0, 99) : any(0, 3);
                same("had", x.had(h, s, n), y.had(h, s, n), h, s, n);
                break;
            default:
                a = any(0, 3);
                n = any(1, 9);
                same("row", x.row(h, a, n), y.row(h, a, n), h, a, n);
                break;
        }
    }

    private void remember() {
        int s = random.nextInt(9) == 0 ? -1 : aStory();
        int t = aTable();
        switch (random.nextInt(8)) {
            case 0:
                same("image", x.image(), y.image());
                break;
            case 1:
                same("undo", x.undo(), y.undo());
                break;
            case 2:
            case 3:
                same("see", x.see(s, t), y.see(s, t), s, t);
                break;
            case 4:
            case 5:
                same("book", x.book(s), y.book(s), s);
                break;
            case 6:
                t = any(0, 2);
                same("told", x.told(t), y.told(t), t);
                break;
            default:
                t = any(0, 6);
                same("count", x.count(t), y.count(t), t);
                break;
        }
    }

    private String anE(int depth) {
        int way = random.nextInt(9);
        if (depth > 5 || way < 4) {
            return "hksgtw".charAt(random.nextInt(6)) + "" + "<=>".charAt(random.nextInt(3))
                + random.nextInt(random.nextInt(3) == 0 ? 100 : 7);
        }
        String e = anE(depth + 1);
        return way == 4 ? "!" + e : way == 5 ? "(" + e + ")"
            : e + (way == 6 ? "|" : "&") + anE(depth + 1);
    }

    private String aClause() {
        int n = random.nextInt(random.nextBoolean() ? 100 : 20);
        switch (random.nextInt(6)) {
            case 0:
                return "days " + n;
            case 1:
                return "face " + n;
            case 2:
                return "sour " + n + " " + anE(0);
            default:
                return "fun " + n + " " + anE(0);
        }
    }

    private void aText() {
        if (random.nextInt(5) > 0) {
            return;
        }
        StringBuilder text = new StringBuilder(aClause());
        while (random.nextInt(4) > 0) {
            text.append(';').append(random.nextInt(30) == 0 ? "" : aClause());
        }
        for (int i = random.nextInt(3) - 1; i > 0; i--) {
            int place = random.nextInt(text.length() + 1);
            text.replace(place, Math.min(text.length(), place + random.nextInt(3)),
                SCRAPS[random.nextInt(SCRAPS.length)]);
        }
        for (int i = 0; i < text.length() && i < LONGEST_TEXT; i++) {
            int sign = random.nextInt(1000) == 0 ? any(0, 127) : text.charAt(i);
            same("feed", x.feed(sign), y.feed(sign), sign);
        }
        same("house", x.house(), y.house());
    }

    private void onTapes() {
        int a = any(0, 5);
        int b = random.nextInt(3) == 0 ? a : any(0, 5);
        int i = any(0, 8);
        int j = any(0, 8);
        int n = any(0, 9);
        long v = random.nextInt(4) == 0 ? random.nextLong() : random.nextInt(3);
        switch (random.nextInt(7)) {
            case 0:
                int sort = random.nextBoolean() ? 2 : any(-1, 4);
                n = random.nextInt(5) == 0 ? any(0, 60) : n;
                same("tape", x.tape(a, sort, n), y.tape(a, sort, n), a, sort, n);
                break;
            case 1:
            case 2:
                same("item", x.item(a, i, v), y.item(a, i, v), a, i, v);
                break;
            case 3:
                same("read", x.read(a, i), y.read(a, i), a, i);
                break;
            case 4:
                same("shift", x.shift(a, i, b, j, n), y.shift(a, i, b, j, n), a, i, b, j, n);
                break;
            default:
                same("judge", x.judge(a, i), y.judge(a, i), a, i);
                break;
        }
    }

    private void askOfOne() {
        int h = aHearer();
        int s = aStory();
        int n = any(0, 2);
        switch (random.nextInt(7)) {
            case 0:
                n = any(0, 40);
                same("of", x.of(h, n), y.of(h, n), h, n);
                break;
            case 1:
                same("laugh", x.laugh(h, s), y.laugh(h, s), h, s);
                break;
            case 2:
                n = any(0, y.now.stories.size());
                same("spared", x.spared(h, n), y.spared(h, n), h, n);
                break;
            case 3:
                same("guess", x.guess(h), y.guess(h), h);
                break;
            case 4:
                int by = any(-100, 100);
                same("act", x.act(h, n, by), y.act(h, n, by), h, n, by);
                break;
            case 5:
                n = any(0, 12);
                same("trace", x.trace(n), y.trace(n), n);
                break;
            default:
                n = any(0, 6);
                same("taken", x.taken(h, n), y.taken(h, n), h, n);
                break;
        }
    }

    private void askOfStories() {
        int s = aStory();
        int t = aTable();
        int n = any(0, 1);
        switch (random.nextInt(8)) {
            case 0:
                same("at", x.at(s, n), y.at(s, n), s, n);
                break;
            case 1:
                same("would", x.would(s, t, n), y.would(s, t, n), s, t, n);
                break;
            case 2:
                same("fresh", x.fresh(s), y.fresh(s), s);
                break;
            case 3:
                same("again", x.again(s, t), y.again(s, t), s, t);
                break;
            case 4:
            case 5:
                n = any(-1, 5);
                same("seats", x.seats(s, n), y.seats(s, n), s, n);
                break;
            case 6:
                same("odds", x.odds(s, n), y.odds(s, n), s, n);
                break;
            default:
                same("looked", x.looked(), y.looked());
                break;
        }
    }

    private void askOfTables() {
        int t = aTable();
        int u = aTable();
        int what = any(0, 1);
        switch (random.nextInt(7)) {
            case 0:
                same("best", x.best(t, what), y.best(t, what), t, what);
                break;
            case 1:
                int m = any(1, 40);
                same("evening", x.evening(t, m, what), y.evening(t, m, what), t, m, what);
                break;
            case 2:
                same("coffee", x.coffee(t, what), y.coffee(t, what), t, what);
                break;
            case 3:
                int n = any(1, 60);
                same("keep", x.keep(t, u, n, what), y.keep(t, u, n, what), t, u, n, what);
                break;
            case 4:
            case 5:
                int suppers = any(1, 3);
                int d = any(1, 30);
                int k = any(-1, 2);
                same("suppers", x.suppers(t, suppers, d, k), y.suppers(t, suppers, d, k),
                    t, suppers, d, k);
                break;
            default:
                same("mean", x.mean(t, what), y.mean(t, what), t, what);
                break;
        }
    }

    private void tellOn() {
        int s = aStory();
        int t = aTable();
        int n = random.nextInt(4) == 0 ? any(0, 99) : any(0, 7);
        if (random.nextBoolean()) {
            same("pass", x.pass(n), y.pass(n), n);
        } else {
            same("tell", x.tell(s, t), y.tell(s, t), s, t);
        }
    }
}
