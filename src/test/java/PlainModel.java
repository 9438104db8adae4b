import java.util.ArrayList;
import java.util.Arrays;
import java.util.List;
import java.util.TreeSet;

/**
 * The document once more, told in the slowest and plainest way: what is asked is played through on
 * copies, telling by telling, and a text is parsed by trying all that could stand at a place.
 */
final class PlainModel {
    static final int[] ABOVE = {-1, 0, 0, 0, 1, 2, 3};

    /** What an image holds. */
    static final class World {
        int day;
        String house;
        List<int[]> stories = new ArrayList<>();
        List<Guest> guests = new ArrayList<>();
        List<int[]> faces = new ArrayList<>();
        List<Integer> book = new ArrayList<>();

        World copy() {
            World w = new World();
            w.day = day;
            w.house = house;
            for (int[] s : stories) {
                w.stories.add(s.clone());
            }
            for (Guest g : guests) {
                w.guests.add(g.copy());
            }
            for (int[] f : faces) {
                w.faces.add(f.clone());
            }
            w.book.addAll(book);
            return w;
        }

        int clauseNumber(String word, int without) {
            int n = without;
            if (house != null) {
                for (String clause : house.split(";")) {
                    String[] parts = clause.split(" ");
                    if (parts[0].equals(word)) {
                        n = Integer.parseInt(parts[1]);
                    }
                }
            }
            return n;
        }

        int mood(int h, int s) {
            Guest g = guests.get(h);
            int mood = 0;
            if (house != null) {
                for (String clause : house.split(";")) {
                    String[] parts = clause.split(" ");
                    if (parts.length == 3) {
                        int n = Integer.parseInt(parts[1]);
                        int[] values = {h, g.kind, s, stories.get(s)[0], Math.min(99, g.times[s]),
                            day % 7};
                        if (holds(parts[2], values)) {
                            mood += parts[0].equals("fun") ? n : -n;
                        }
                    }
                }
            }
            return mood;
        }

        boolean knows(int h, int s) {
            Guest g = guests.get(h);
            int days = clauseNumber("days", 20);
            if (g.kind == 3) {
                days = days / 2;
            }
            if (g.kind == 5) {
                days = days * 2;
            }
            if (g.kind == 6) {
                days = days / g.row[day % 4];
            }
            return g.times[s] > 0 && day - g.last[s] < days;
        }

        int laugh(int h, int s) {
            Guest one = guests.get(h);
            int g = stories.get(s)[0] + mood(h, s);
            int face = clauseNumber("face", 5);
            boolean k = knows(h, s);
            if (one.kind == 1) {
                return k ? 0 : g;
            }
            if (one.kind == 4) {
                return k ? one.v : g;
            }
            if (one.kind == 2) {
                return k ? -2 * face : g - one.times[s];
            }
            if (one.kind == 5) {
                return k ? g + one.v : g - one.times[s];
            }
            return k ? -face : g;
        }

        int laughter(int s, int table) {
            int sum = 0;
            for (int h = 0; h < guests.size(); h++) {
                if ((table & 1 << h) != 0) {
                    sum += laugh(h, s);
                }
            }
            return sum;
        }

        int tell(int s, int table) {
            int sum = laughter(s, table);
            for (int h = 0; h < guests.size(); h++) {
                if ((table & 1 << h) != 0) {
                    Guest g = guests.get(h);
                    g.times[s] = Math.min(999, g.times[s] + 1);
                    g.last[s] = day;
                }
            }
            return sum;
        }

        World later(int days) {
            World w = copy();
            w.day += days;
            return w;
        }
    }

    static final class Guest {
        int kind;
        int v;
        int[] times = new int[8];
        int[] last = new int[8];
        int[] row = {1, 1, 1, 1};

        Guest copy() {
            Guest g = new Guest();
            g.kind = kind;
            g.v = v;
            g.times = times.clone();
            g.last = last.clone();
            g.row = row.clone();
            return g;
        }
    }

    /** What an E is, by cutting the text at its outermost | and then &. */
    static boolean holds(String e, int[] values) {
        for (char cut : new char[] {'|', '&'}) {
            int open = 0;
            for (int i = 0; i < e.length(); i++) {
                open += e.charAt(i) == '(' ? 1 : e.charAt(i) == ')' ? -1 : 0;
                if (open == 0 && e.charAt(i) == cut) {
                    boolean one = holds(e.substring(0, i), values);
                    boolean other = holds(e.substring(i + 1), values);
                    return cut == '|' ? one || other : one && other;
                }
            }
        }
        if (e.charAt(0) == '!') {
            return !holds(e.substring(1), values);
        }
        if (e.charAt(0) == '(') {
            return holds(e.substring(1, e.length() - 1), values);
        }
        int value = values["hksgtw".indexOf(e.charAt(0))];
        int n = Integer.parseInt(e.substring(2));
        return e.charAt(1) == '<' ? value < n : e.charAt(1) == '=' ? value == n : value > n;
    }

    /** Parses by all ways at once: each method takes the places where a part may begin, and
     * answers those where it may end; the furthest place tried in vain is the fault. */
    static final class Ways {
        final String text;
        int furthest = 0;

        Ways(String text) {
            this.text = text;
        }

        int fault() {
            TreeSet<Integer> ends = of(0);
            TreeSet<Integer> at = clause(ends);
            TreeSet<Integer> all = new TreeSet<>(at);
            for (int i = 0; i < 9; i++) {
                at = clause(sign(at, ";"));
                all.addAll(at);
            }
            for (int end : all) {
                furthest = Math.max(furthest, end);
            }
            return all.contains(text.length()) ? -1 : furthest;
        }

        static TreeSet<Integer> of(int place) {
            return new TreeSet<>(List.of(place));
        }

        static TreeSet<Integer> both(TreeSet<Integer> a, TreeSet<Integer> b) {
            TreeSet<Integer> all = new TreeSet<>(a);
            all.addAll(b);
            return all;
        }

        TreeSet<Integer> sign(TreeSet<Integer> at, String signs) {
            TreeSet<Integer> ends = new TreeSet<>();
            for (int place : at) {
                furthest = Math.max(furthest, place);
                if (place < text.length() && signs.indexOf(text.charAt(place)) >= 0) {
                    ends.add(place + 1);
                }
            }
            return ends;
        }

        TreeSet<Integer> word(TreeSet<Integer> at, String word) {
            for (char c : word.toCharArray()) {
                at = sign(at, "" + c);
            }
            return at;
        }

        TreeSet<Integer> number(TreeSet<Integer> at) {
            TreeSet<Integer> one = sign(at, "0123456789");
            return both(one, sign(one, "0123456789"));
        }

        TreeSet<Integer> clause(TreeSet<Integer> at) {
            TreeSet<Integer> fun = either(word(number(word(at, "fun ")), " "), 0);
            TreeSet<Integer> sour = either(word(number(word(at, "sour ")), " "), 0);
            TreeSet<Integer> rest = both(number(word(at, "days ")), number(word(at, "face ")));
            return both(both(fun, sour), rest);
        }

        TreeSet<Integer> either(TreeSet<Integer> at, int within) {
            if (at.isEmpty()) {
                return at;
            }
            TreeSet<Integer> one = and(at, within);
            return both(one, either(sign(one, "|"), within));
        }

        TreeSet<Integer> and(TreeSet<Integer> at, int within) {
            if (at.isEmpty()) {
                return at;
            }
            TreeSet<Integer> one = part(at, within);
            return both(one, and(sign(one, "&"), within));
        }

        TreeSet<Integer> part(TreeSet<Integer> at, int within) {
            if (at.isEmpty()) {
                return at;
            }
            TreeSet<Integer> ends = number(sign(sign(at, "hksgtw"), "<=>"));
            if (within < 4) {
                ends = both(ends, part(sign(at, "!"), within + 1));
                ends = both(ends, sign(either(sign(at, "("), within + 1), ")"));
            }
            return ends;
        }
    }

    World now = new World();
    World kept = null;
    String text = "";
    List<String> houses = new ArrayList<>();
    List<Integer> trace = new ArrayList<>();
    Object[] tapes = new Object[6];

    boolean isStory(int s) {
        return s >= 0 && s < now.stories.size();
    }

    boolean isHearer(int h) {
        return h >= 0 && h < now.guests.size();
    }

    boolean isTable(int t) {
        return t >= 0 && t >> now.guests.size() == 0;
    }

    int story(int good, int minutes) {
        if (good < 1 || good > 30 || minutes < 1 || minutes > 9) {
            return -2;
        }
        if (now.stories.size() == 8) {
            return -4;
        }
        now.stories.add(new int[] {good, minutes});
        return now.stories.size() - 1;
    }

    int hearer(int kind, int v) {
        if (kind < 0 || kind > 6) {
            return -1;
        }
        if (v < 0 || v > 9) {
            return -2;
        }
        if (now.guests.size() == 6) {
            return -4;
        }
        Guest g = new Guest();
        g.kind = kind;
        g.v = v;
        now.guests.add(g);
        return now.guests.size() - 1;
    }

    int of(int h, int what) {
        if (!isHearer(h)) {
            return -1;
        }
        Guest g = now.guests.get(h);
        if (what == 0) {
            return g.kind;
        }
        if (what == 1) {
            return g.v;
        }
        for (int s = 0; s < now.stories.size(); s++) {
            if (what == 10 + s) {
                return g.times[s];
            }
            if (what == 20 + s) {
                return now.knows(h, s) ? 1 : 0;
            }
            if (what == 30 + s) {
                return now.mood(h, s) + 1000;
            }
        }
        return -1;
    }

    int at(int s, int what) {
        return isStory(s) && (what == 0 || what == 1) ? now.stories.get(s)[what] : -1;
    }

    int good(int s, int n) {
        if (!isStory(s)) {
            return -1;
        }
        if (n < 1 || n > 30) {
            return -2;
        }
        int was = now.stories.get(s)[0];
        now.stories.get(s)[0] = n;
        return was;
    }

    int had(int h, int s, int n) {
        if (!isHearer(h) || !isStory(s)) {
            return -1;
        }
        if (n < 0 || n > 99) {
            return -2;
        }
        Guest g = now.guests.get(h);
        int was = g.times[s];
        g.times[s] = n;
        g.last[s] = now.day;
        return was;
    }

    int row(int h, int part, int n) {
        if (!isHearer(h) || part < 0 || part > 3) {
            return -1;
        }
        if (n < 1 || n > 9) {
            return -2;
        }
        Guest g = now.guests.get(h);
        if (g.kind != 6) {
            return -3;
        }
        int was = g.row[part];
        g.row[part] = n;
        return was;
    }

    int feed(int sign) {
        if (sign < 0 || sign > 127) {
            return -2;
        }
        if (text.length() == 100) {
            return -4;
        }
        text += (char) sign;
        return text.length();
    }

    int house() {
        if (houses.size() == 6) {
            return -4;
        }
        String read = text;
        text = "";
        int fault = new Ways(read).fault();
        if (fault >= 0) {
            return -10 - fault;
        }
        houses.add(read);
        now.house = read;
        return houses.size() - 1;
    }

    int told(int what) {
        return what == 0 ? now.day : what == 1 ? now.clauseNumber("days", 20)
            : what == 2 ? now.clauseNumber("face", 5) : -1;
    }

    int pass(int n) {
        if (n < 0 || n > 99) {
            return -2;
        }
        if (now.day + n > 9999) {
            return -3;
        }
        now.day += n;
        return now.day;
    }

    int tell(int s, int table) {
        return !isStory(s) ? -10001 : !isTable(table) ? -10002 : now.tell(s, table);
    }

    int laugh(int h, int s) {
        return isHearer(h) && isStory(s) ? now.laugh(h, s) : -10001;
    }

    int knowers(World w, int s, int table) {
        int set = 0;
        for (int h = 0; h < w.guests.size(); h++) {
            if ((table >> h & 1) == 1 && w.knows(h, s)) {
                set += 1 << h;
            }
        }
        return set;
    }

    int would(int s, int table, int what) {
        if (!isStory(s) || what < 0 || what > 1) {
            return -10001;
        }
        if (!isTable(table)) {
            return -10002;
        }
        return what == 0 ? now.laughter(s, table) : Integer.bitCount(knowers(now, s, table));
    }

    int bestOf(World w, int table, List<Integer> told) {
        int best = -1;
        for (int s = 0; s < w.stories.size(); s++) {
            if (!told.contains(s)
                && (best < 0 || w.laughter(s, table) > w.laughter(best, table))) {
                best = s;
            }
        }
        return best;
    }

    int best(int table, int what) {
        if (what < 0 || what > 1) {
            return -10001;
        }
        if (!isTable(table)) {
            return -10002;
        }
        if (now.stories.isEmpty()) {
            return -10005;
        }
        int best = bestOf(now, table, List.of());
        return what == 0 ? best : now.laughter(best, table);
    }

    int fresh(int s) {
        if (!isStory(s)) {
            return -1;
        }
        int all = (1 << now.guests.size()) - 1;
        return all - knowers(now, s, all);
    }

    int again(int s, int table) {
        if (!isStory(s)) {
            return -1;
        }
        if (!isTable(table)) {
            return -2;
        }
        for (int d = 0; d < 100; d++) {
            if (knowers(now.later(d), s, table) == 0) {
                return d;
            }
        }
        return -5;
    }

    int evening(int table, int m, int what) {
        if (what < 0 || what > 1) {
            return -10001;
        }
        if (!isTable(table) || m < 1 || m > 40) {
            return -10002;
        }
        int bestSet = -1;
        int most = 0;
        for (int set = 0; set < 1 << now.stories.size(); set++) {
            int length = 0;
            int sum = 0;
            for (int s = 0; s < now.stories.size(); s++) {
                if ((set >> s & 1) == 1) {
                    length += now.stories.get(s)[1];
                    sum += now.laughter(s, table);
                }
            }
            if (length <= m && (bestSet < 0 || sum > most)) {
                bestSet = set;
                most = sum;
            }
        }
        return what == 0 ? bestSet : most;
    }

    int coffee(int table, int what) {
        if (what < 0 || what > 1) {
            return -10001;
        }
        if (!isTable(table)) {
            return -10002;
        }
        World w = now.copy();
        List<Integer> told = new ArrayList<>();
        int sum = 0;
        while (true) {
            int next = bestOf(w, table, told);
            if (next < 0 || w.laughter(next, table) <= 0) {
                return what == 0 ? told.size() : sum;
            }
            sum += w.tell(next, table);
            told.add(next);
        }
    }

    int keep(int table, int other, int n, int what) {
        if (what < 0 || what > 1) {
            return -10001;
        }
        if (!isTable(table) || !isTable(other) || n < 1 || n > 60) {
            return -10002;
        }
        if (now.stories.size() < 2) {
            return -10005;
        }
        int best = -1;
        int most = 0;
        for (int a = 0; a < now.stories.size(); a++) {
            for (int b = 0; b < now.stories.size(); b++) {
                if (a != b) {
                    World w = now.copy();
                    int sum = w.tell(a, table);
                    w.day += n;
                    sum += w.tell(b, other);
                    if (best < 0 || sum > most) {
                        best = 10 * a + b;
                        most = sum;
                    }
                }
            }
        }
        return what == 0 ? best : most;
    }

    private int mostSuppers;
    private int[] bestSuppers;

    void suppersFrom(World w, int table, int d, int[] row, int place, int sum) {
        if (place == row.length) {
            if (bestSuppers == null || sum > mostSuppers) {
                bestSuppers = row.clone();
                mostSuppers = sum;
            }
            return;
        }
        for (int s = 0; s < w.stories.size(); s++) {
            World next = w.copy();
            row[place] = s;
            int laughter = next.tell(s, table);
            next.day += d;
            suppersFrom(next, table, d, row, place + 1, sum + laughter);
        }
    }

    int suppers(int table, int n, int d, int k) {
        if (k < -1 || k > 2) {
            return -10001;
        }
        if (!isTable(table) || n < 1 || n > 3 || d < 1 || d > 30) {
            return -10002;
        }
        if (k >= n || now.stories.isEmpty()) {
            return -10005;
        }
        bestSuppers = null;
        suppersFrom(now, table, d, new int[n], 0, 0);
        return k == -1 ? mostSuppers : bestSuppers[k];
    }

    private int mostSeats;
    private List<Integer> bestSeats;

    void seatsFrom(int s, List<Integer> row) {
        int n = now.guests.size();
        if (row.size() == n) {
            int served = 0;
            for (int i = 0; i < n; i++) {
                boolean beside = now.knows(row.get((i + 1) % n), s)
                    || now.knows(row.get((i + n - 1) % n), s);
                if (!now.knows(row.get(i), s) && beside) {
                    served++;
                }
            }
            if (bestSeats == null || served > mostSeats) {
                bestSeats = new ArrayList<>(row);
                mostSeats = served;
            }
            return;
        }
        for (int h = row.isEmpty() ? 0 : 1; h < (row.isEmpty() ? 1 : n); h++) {
            if (!row.contains(h)) {
                List<Integer> longer = new ArrayList<>(row);
                longer.add(h);
                seatsFrom(s, longer);
            }
        }
    }

    int seats(int s, int k) {
        if (!isStory(s) || k < -1 || k > 5) {
            return -1;
        }
        if (k >= now.guests.size()) {
            return -5;
        }
        bestSeats = null;
        mostSeats = 0;
        if (!now.guests.isEmpty()) {
            seatsFrom(s, new ArrayList<>());
        }
        return k == -1 ? mostSeats : bestSeats.get(k);
    }

    int spared(int h, int n) {
        if (!isHearer(h)) {
            return -10001;
        }
        if (n < 0 || n > 8) {
            return -10002;
        }
        if (n > now.stories.size()) {
            return -10005;
        }
        int[] laughs = new int[now.stories.size()];
        for (int s = 0; s < laughs.length; s++) {
            laughs[s] = now.laugh(h, s);
        }
        Arrays.sort(laughs);
        return Arrays.stream(laughs).limit(n).sum();
    }

    int see(int s, int set) {
        if (s == -1) {
            now.faces.clear();
            return 0;
        }
        if (!isStory(s)) {
            return -1;
        }
        if (!isTable(set)) {
            return -2;
        }
        if (now.faces.size() == 6) {
            return -4;
        }
        now.faces.add(new int[] {s, set});
        return now.faces.size();
    }

    int guess(int h) {
        if (!isHearer(h)) {
            return -1;
        }
        int had = 0;
        for (int s = 0; s < now.stories.size(); s++) {
            for (int[] f : now.faces) {
                if (f[0] == s && (f[1] >> h & 1) == 1 && now.laugh(h, s) >= 0) {
                    had |= 1 << s;
                }
            }
        }
        return had;
    }

    static long fraction(long above, long below, int part) {
        long a = Math.abs(above);
        long b = below;
        while (b != 0) {
            long rest = a % b;
            a = b;
            b = rest;
        }
        return (part == 0 ? above : below) / a;
    }

    long odds(int s, int part) {
        if (!isStory(s) || part < 0 || part > 1) {
            return Long.MIN_VALUE;
        }
        int glad = 0;
        for (int table = 0; table < 1 << now.guests.size(); table++) {
            glad += now.laughter(s, table) > 0 ? 1 : 0;
        }
        return fraction(glad, 1 << now.guests.size(), part);
    }

    long mean(int table, int part) {
        if (!isTable(table) || part < 0 || part > 1 || now.stories.isEmpty()) {
            return Long.MIN_VALUE;
        }
        int sum = 0;
        for (int s = 0; s < now.stories.size(); s++) {
            sum += now.laughter(s, table);
        }
        return fraction(sum, now.stories.size(), part);
    }

    int book(int s) {
        if (s == -1) {
            now.book.clear();
            return 0;
        }
        if (!isStory(s)) {
            return -1;
        }
        if (now.book.size() == 10) {
            return -4;
        }
        now.book.add(s);
        return now.book.size();
    }

    int looked() {
        World w = now.copy();
        for (int i = 0; i < now.book.size(); i++) {
            if (w.tell(now.book.get(i), (1 << w.guests.size()) - 1) <= 0) {
                return i;
            }
            w.day++;
        }
        return -5;
    }

    boolean isTape(int t) {
        return t >= 0 && t <= 5;
    }

    int judge(int tape, int i) {
        if (!isTape(tape)) {
            return -1;
        }
        if (tapes[tape] != null && !(tapes[tape] instanceof int[])) {
            return -12;
        }
        int[] row = tapes[tape] == null ? new int[0] : (int[]) tapes[tape];
        for (int s = 0; s < now.stories.size(); s++) {
            long place = (long) i + s;
            if (i < 0 || place >= row.length) {
                return 100 + s;
            }
            int times = now.guests.isEmpty() ? 0 : now.guests.get(0).times[s];
            if (row[(int) place] != times) {
                return s;
            }
        }
        return -5;
    }

    int image() {
        kept = now.copy();
        return now.guests.size();
    }

    int undo() {
        if (kept == null) {
            return -3;
        }
        now = kept.copy();
        return now.guests.size();
    }

    static final String[] BODIES = {"10 hears", "11 laughs", "12 tells", "20 laughs", "30 hears",
        "40 tells", "50 hears", "51 laughs", "60 tells", "70 laughs", "71 hears"};
    static final int[] BODY_KIND = {0, 0, 0, 1, 2, 3, 4, 4, 5, 6, 6};

    int run(int h, int from, String act, int x) {
        int kind = from;
        int body = -1;
        while (body < 0) {
            for (int b = 0; b < BODIES.length; b++) {
                if (BODY_KIND[b] == kind && BODIES[b].endsWith(" " + act)) {
                    body = Integer.parseInt(BODIES[b].substring(0, 2));
                }
            }
            if (body < 0) {
                kind = ABOVE[kind];
            }
        }
        trace.add(body);
        int own = now.guests.get(h).kind;
        int v = now.guests.get(h).v;
        int up = ABOVE[kind];
        if (body == 10) {
            return x + h;
        } else if (body == 11) {
            return run(h, own, "hears", x) - v;
        } else if (body == 12) {
            return run(h, own, "laughs", x) * 2;
        } else if (body == 20) {
            return run(h, up, "laughs", x) ^ 6;
        } else if (body == 30) {
            return run(h, up, "hears", x * 3);
        } else if (body == 40) {
            int first = run(h, up, "tells", x);
            return first + run(h, own, "laughs", 1);
        } else if (body == 50) {
            return -run(h, up, "hears", x);
        } else if (body == 51) {
            return run(h, up, "laughs", x + 1);
        } else if (body == 60) {
            return run(h, up, "tells", x - h);
        } else if (body == 70) {
            int first = run(h, up, "laughs", x);
            return first + run(h, up, "hears", 2);
        }
        return run(h, up, "hears", x) ^ v;
    }

    int act(int h, int act, int x) {
        trace.clear();
        if (!isHearer(h) || act < 0 || act > 2) {
            return 0;
        }
        return run(h, now.guests.get(h).kind, new String[] {"hears", "laughs", "tells"}[act], x);
    }

    int trace(int i) {
        return i >= 0 && i < 20 && i < trace.size() ? trace.get(i) : -1;
    }

    int taken(int h, int k) {
        if (k < 0 || k > 6) {
            return -2;
        }
        if (!isHearer(h)) {
            return -11;
        }
        int own = now.guests.get(h).kind;
        for (int kind = own; kind >= 0; kind = ABOVE[kind]) {
            if (kind == k) {
                return own;
            }
        }
        return -12;
    }

    int count(int what) {
        int[] all = {now.guests.size(), now.stories.size(), houses.size(), now.faces.size(),
            now.book.size(), text.length(), trace.size()};
        return what >= 0 && what < all.length ? all[what] : -2;
    }

    int tape(int tape, int sort, int n) {
        if (!isTape(tape)) {
            return -1;
        }
        if (sort < -1 || sort > 4 || sort != -1 && n > 60) {
            return -2;
        }
        if (sort != -1 && n < 0) {
            return -14;
        }
        tapes[tape] = sort == -1 ? null : sort == 0 ? new byte[n] : sort == 1 ? new short[n]
            : sort == 2 ? new int[n] : sort == 3 ? new long[n] : new boolean[n];
        return 1;
    }

    int item(int tape, int i, long v) {
        if (!isTape(tape)) {
            return -1;
        }
        Object row = tapes[tape];
        if (row == null) {
            return -11;
        }
        if (i < 0 || i >= java.lang.reflect.Array.getLength(row)) {
            return -13;
        }
        if (row instanceof byte[] bytes) {
            bytes[i] = (byte) v;
        } else if (row instanceof short[] shorts) {
            shorts[i] = (short) v;
        } else if (row instanceof int[] ints) {
            ints[i] = (int) v;
        } else if (row instanceof long[] longs) {
            longs[i] = v;
        } else if (row instanceof boolean[] booleans) {
            booleans[i] = v != 0;
        }
        return 1;
    }

    long read(int tape, int i) {
        if (!isTape(tape) || tapes[tape] == null || i < 0
            || i >= java.lang.reflect.Array.getLength(tapes[tape])) {
            return Long.MIN_VALUE;
        }
        Object item = java.lang.reflect.Array.get(tapes[tape], i);
        return item instanceof Boolean b ? (b ? 1 : 0) : ((Number) item).longValue();
    }

    int shift(int tape, int i, int other, int j, int n) {
        if (!isTape(tape) || !isTape(other)) {
            return -1;
        }
        if (tapes[tape] == null || tapes[other] == null) {
            return -11;
        }
        if (tapes[tape].getClass() != tapes[other].getClass()) {
            return -12;
        }
        try {
            System.arraycopy(tapes[tape], i, tapes[other], j, n);
        } catch (IndexOutOfBoundsException e) {
            return -13;
        }
        return n;
    }
}
