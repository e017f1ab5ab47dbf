import java.util.ArrayList;
import java.util.Arrays;
import java.util.HashMap;
import java.util.HashSet;
import java.util.LinkedHashSet;
import java.util.List;
import java.util.Map;
import java.util.NoSuchElementException;
import java.util.Set;
import java.util.function.IntUnaryOperator;

/**
 * The document said a second time, as slowly and plainly as can be: all simple ways are listed,
 * all sets tried, all states of a ring kept. FuzzTest holds MendingRoads against it.
 */
final class Oracle {
    record Road(int a, int b, int l, int s, int m) { }

    static final class Going {
        int p, q, d, w, c = 8, h = 0;
    }

    static final class Told {
        int places = 4, rest = 9;
        final List<Road> roads = new ArrayList<>();
        final List<Road> news = new ArrayList<>();
        final List<Going> goings = new ArrayList<>();
        final Set<Integer> wet = new LinkedHashSet<>();
    }

    static final class Bad extends Exception {
        final int kind, place;

        Bad(int kind, int place) {
            this.kind = kind;
            this.place = place;
        }
    }

    /** Wear and rest of each road, and the day. */
    static final class Now {
        int day;
        int[] wear, rest;

        Now copy() {
            Now n = new Now();
            n.day = day;
            n.wear = wear.clone();
            n.rest = rest.clone();
            return n;
        }
    }

    record Image(Now now, List<Integer> row) { }

    final StringBuilder tape = new StringBuilder();
    int faultPlace = -1;
    Told told = new Told();
    Now now = whole(told);
    List<Integer> row = new ArrayList<>();
    final List<Image> images = new ArrayList<>();

    static Now whole(Told t) {
        Now n = new Now();
        n.wear = new int[t.roads.size()];
        n.rest = new int[t.roads.size()];
        Arrays.fill(n.rest, t.rest);
        return n;
    }

    // ---- reading ----

    static final class Text {
        final String s;
        int at = 0;

        Text(String s) {
            this.s = s;
        }

        void blanks() {
            while (at < s.length() && s.charAt(at) == ' ') at++;
        }

        String take(String signs) {
            int from = at;
            while (at < s.length() && signs.indexOf(s.charAt(at)) >= 0) at++;
            return s.substring(from, at);
        }

        int number(int least, int most, int not) throws Bad {
            blanks();
            int from = at;
            String digits = take("0123456789");
            if (digits.isEmpty()) throw new Bad(1, from);
            java.math.BigInteger v = new java.math.BigInteger(digits);
            if (v.bitLength() > 20) throw new Bad(2, from);
            int n = v.intValue();
            if (n < least || n > most || n == not) throw new Bad(2, from);
            return n;
        }
    }

    static Told read(String s) throws Bad {
        Told t = new Told();
        Text x = new Text(s);
        int clauses = 0;
        for (x.blanks(); x.at < s.length(); x.blanks()) {
            int word = x.at;
            String w = x.take("abcdefghijklmnopqrstuvwxyz");
            if (!List.of("places", "road", "new", "going", "chance", "wait", "wet", "law").contains(w)) throw new Bad(1, word);
            if (clauses == 60) throw new Bad(3, word);
            if (w.equals("road") && t.roads.size() == 10) throw new Bad(3, word);
            if (w.equals("new") && t.news.size() == 4) throw new Bad(3, word);
            if (w.equals("going") && t.goings.size() == 14) throw new Bad(3, word);
            if (w.equals("wet") && t.wet.size() == 8) throw new Bad(3, word);
            if (w.equals("places") && clauses > 0) throw new Bad(4, word);
            Runnable deed = clause(x, w, t);
            x.blanks();
            if (x.at == s.length() || s.charAt(x.at) != ';') throw new Bad(1, x.at);
            x.at++;
            clauses++;
            deed.run();
        }
        return t;
    }

    static Runnable clause(Text x, String w, Told t) throws Bad {
        int top = t.places - 1;
        int last = t.goings.size() - 1;
        switch (w) {
            case "places": {
                int n = x.number(2, 12, -1);
                return () -> t.places = n;
            }
            case "law": {
                int n = x.number(3, 11, -1);
                return () -> t.rest = n;
            }
            case "wet": {
                int n = x.number(0, 999, -1);
                return () -> t.wet.add(n);
            }
            case "chance": {
                int k = x.number(0, last, -1);
                int c = x.number(1, 8, -1);
                return () -> t.goings.get(k).c = c;
            }
            case "wait": {
                int k = x.number(0, last, -1);
                int h = x.number(0, 6, -1);
                return () -> t.goings.get(k).h = h;
            }
            case "going": {
                Going g = new Going();
                g.p = x.number(0, top, -1);
                g.q = x.number(0, top, g.p);
                g.d = x.number(1, 127, -1);
                g.w = x.number(1, 9, -1);
                return () -> t.goings.add(g);
            }
            default: {
                int a = x.number(0, top, -1);
                int b = x.number(0, top, a);
                Road r = new Road(a, b, x.number(1, 99, -1), x.number(0, 9, -1), x.number(1, 30, -1));
                return () -> (w.equals("road") ? t.roads : t.news).add(r);
            }
        }
    }

    public int feed(int a, int b, int c, int d, int e) {
        if (tape.length() + 20 > 600) return -1;
        for (int v : new int[] {a, b, c, d, e}) {
            for (int i = 3; i >= 0; i--) tape.append((char) (v >> 8 * i & 255));
        }
        return tape.length();
    }

    public int land(int n) {
        demand(n >= 0 && n <= tape.length());
        String s = tape.substring(0, n);
        tape.setLength(0);
        try {
            told = read(s);
        } catch (Bad b) {
            faultPlace = b.place;
            return b.kind - 10;
        }
        faultPlace = -1;
        now = whole(told);
        row = new ArrayList<>();
        images.clear();
        return told.roads.size();
    }

    public int fault() {
        return faultPlace;
    }

    // ---- asking ----

    static void demand(boolean b) {
        if (!b) throw new IllegalArgumentException();
    }

    void needGoing(int g) {
        if (g < 0 || g >= told.goings.size()) throw new NoSuchElementException();
    }

    void needRoad(int r) {
        if (r < 0 || r >= told.roads.size()) throw new IndexOutOfBoundsException();
    }

    void needShut(int shut) {
        demand(shut >> told.roads.size() == 0);
    }

    void needRow() {
        if (row.isEmpty()) throw new IllegalStateException();
    }

    static void needDays(int days) {
        demand(days >= 1 && days <= 366);
    }

    public int told(int what) {
        demand(what >= 0 && what <= 6);
        return new int[] {told.places, told.roads.size(), told.news.size(), told.goings.size(), told.wet.size(), told.rest, now.day}[what];
    }

    public int road(int road, int what) {
        needRoad(road);
        demand(what >= 0 && what <= 7);
        Road r = told.roads.get(road);
        int w = now.wear[road];
        return new int[] {r.a, r.b, r.l, r.s, r.m, w, now.rest[road], w > r.m ? -1 : r.l + r.s * w}[what];
    }

    public int going(int going, int what) {
        needGoing(going);
        demand(what >= 0 && what <= 5);
        Going g = told.goings.get(going);
        return new int[] {g.p, g.q, g.d, g.w, g.c, g.h}[what];
    }

    // ---- ways: all of them, then the least ----

    static final class Found {
        int chosen = Integer.MAX_VALUE, minutes, paid;
        List<Integer> roads = null;
    }

    static Found ways(List<Road> roads, int[] wear, int shut, int toll, int p, int q) {
        Found f = new Found();
        spread(roads, wear, shut, toll, p, q, 1 << p, new ArrayList<>(), f);
        return f;
    }

    /** Roads are tried by number, so of alike ways the first is found first. */
    static void spread(List<Road> roads, int[] wear, int shut, int toll, int at, int q, int seen, List<Integer> so, Found f) {
        if (at == q) {
            int minutes = 0, paid = 0;
            for (int r : so) {
                minutes += roads.get(r).l + roads.get(r).s * wear[r];
                paid += toll * wear[r];
            }
            if (minutes + paid < f.chosen) {
                f.chosen = minutes + paid;
                f.minutes = minutes;
                f.paid = paid;
                f.roads = new ArrayList<>(so);
            }
            return;
        }
        for (int r = 0; r < roads.size(); r++) {
            Road x = roads.get(r);
            if ((shut >> r & 1) == 1 || wear[r] > x.m) continue;
            int to = x.a == at ? x.b : x.b == at ? x.a : -1;
            if (to < 0 || (seen >> to & 1) == 1) continue;
            so.add(r);
            spread(roads, wear, shut, toll, to, q, seen | 1 << to, so, f);
            so.remove(so.size() - 1);
        }
    }

    Found wayOf(int going, int shut) {
        needGoing(going);
        needShut(shut);
        Going g = told.goings.get(going);
        return ways(told.roads, now.wear, shut, 0, g.p, g.q);
    }

    public int way(int going, int shut) {
        Found f = wayOf(going, shut);
        return f.roads == null ? -1 : f.minutes;
    }

    public int by(int going, int shut, int i) {
        Found f = wayOf(going, shut);
        return f.roads == null || i < 0 || i >= f.roads.size() ? -1 : f.roads.get(i);
    }

    // ---- a walk through days ----

    final class Walk {
        Now n = now.copy();
        List<Road> roads = told.roads;
        int rest = told.rest, toll = 0, lateGoing = -1, late = 0, absent = -1, heedless = -1;
        boolean dry = false;
        Integer lot = null;
        long paid = 0, went = 0, stays = 0;
        final long[] costs = new long[told.goings.size()];
        int gone = 0, firstStays;

        long cost() {
            return Arrays.stream(costs).sum();
        }

        long costWithout(int going) {
            return cost() - costs[going];
        }

        boolean goes(int i) {
            Going g = told.goings.get(i);
            int back = i == lateGoing ? late : 0;
            if (i == absent || gone < back || (g.d >> (n.day - back) % 7 & 1) == 0) return false;
            if (lot == null || g.c == 8) return true;
            lot = (int) ((lot.longValue() * 1103515245L + 12345L) & 0xffffffffL);
            return (lot >>> 16) % 8 < g.c;
        }

        void pass(int shut) {
            int[] got = new int[roads.size()];
            firstStays = -1;
            for (int i = 0; i < told.goings.size(); i++) {
                if (!goes(i)) continue;
                Going g = told.goings.get(i);
                Found f = ways(roads, n.wear, i == heedless ? 0 : shut, toll, g.p, g.q);
                if (f.roads == null) {
                    stays++;
                    costs[i] += 1000;
                    if (firstStays < 0) firstStays = i;
                } else {
                    went++;
                    costs[i] += f.minutes;
                    paid += f.paid;
                    for (int r : f.roads) got[r] += g.w;
                }
            }
            for (int r = 0; r < got.length; r++) {
                if (!dry && told.wet.contains(n.day)) got[r]++;
                if (got[r] > 0) {
                    n.wear[r] = Math.min(99, n.wear[r] + got[r]);
                    n.rest[r] = 0;
                } else {
                    if (n.rest[r] < rest) n.rest[r]++;
                    if (n.rest[r] == rest) n.wear[r] = 0;
                }
            }
            n.day++;
            gone++;
        }

        Walk on(int rule, int days) {
            for (int i = 0; i < days; i++) pass(shutBy(rule, n, gone));
            return this;
        }

        boolean pastUse(int r) {
            return n.wear[r] > roads.get(r).m;
        }

        int firstPast() {
            for (int r = 0; r < roads.size(); r++) if (pastUse(r)) return r;
            return -1;
        }
    }

    boolean allThrough(Now n, int shut) {
        for (Going g : told.goings) {
            if ((g.d >> n.day % 7 & 1) == 1 && ways(told.roads, n.wear, shut, 0, g.p, g.q).roads == null) return false;
        }
        return true;
    }

    int shutBy(int rule, Now n, int gone) {
        if (rule == 0) return 0;
        if (rule == 1) return row.get(gone % row.size());
        int count = told.roads.size();
        if (rule == 2) {
            int most = -1;
            for (int r = 0; r < count; r++) {
                if (n.wear[r] > told.roads.get(r).m / 2.0) most = Math.max(most, n.wear[r]);
            }
            for (int r = 0; r < count; r++) {
                if (n.wear[r] > told.roads.get(r).m / 2.0 && n.wear[r] == most) return allThrough(n, 1 << r) ? 1 << r : 0;
            }
            return 0;
        }
        int shut = 0;
        for (int r = 0; r < count; r++) {
            if (n.wear[r] != 0 && n.rest[r] != 0 && allThrough(n, shut + (1 << r))) shut += 1 << r;
        }
        return shut;
    }

    void needRule(int rule, int days) {
        demand(rule >= 0 && rule <= 3);
        needDays(days);
    }

    public int shuts(int rule) {
        demand(rule == 0 || rule == 2 || rule == 3);
        return shutBy(rule, now, 0);
    }

    public int day(int shut) {
        needShut(shut);
        Walk w = new Walk();
        w.pass(shut);
        now = w.n;
        return (int) w.cost();
    }

    public long run(int rule, int days) {
        needRule(rule, days);
        if (rule == 1) needRow();
        Walk w = new Walk().on(rule, days);
        now = w.n;
        return w.cost();
    }

    public long would(int rule, int days, int what) {
        needRule(rule, days);
        demand(what >= 0 && what <= 3);
        if (rule == 1) needRow();
        Walk w = new Walk().on(rule, days);
        if (what == 0) return w.cost();
        if (what == 1) return w.stays;
        int past = 0, most = 0;
        for (int r = 0; r < told.roads.size(); r++) {
            if (w.pastUse(r)) past++;
            most = Math.max(most, w.n.wear[r]);
        }
        return what == 2 ? past : most;
    }

    public int row(int shut) {
        needShut(shut);
        if (row.size() == 30) return -1;
        row.add(shut);
        return row.size();
    }

    public int clear() {
        int n = row.size();
        row = new ArrayList<>();
        return n;
    }

    public int judge(int what) {
        demand(what >= 0 && what <= 3);
        int[] v = {-1, -1, -1, -1};
        Walk w = new Walk();
        for (int i = 0; i < row.size(); i++) {
            w.pass(row.get(i));
            if (v[0] < 0 && w.firstPast() >= 0) {
                v[0] = i;
                v[1] = w.firstPast();
            }
            if (v[2] < 0 && w.firstStays >= 0) {
                v[2] = i;
                v[3] = w.firstStays;
            }
        }
        return v[what];
    }

    public long minutes() {
        Walk w = new Walk();
        for (int s : row) w.pass(s);
        return w.cost();
    }

    public int ever(int what) {
        demand(what >= 0 && what <= 3);
        needRow();
        Walk w = new Walk();
        w.dry = true;
        Map<String, Integer> seen = new HashMap<>();
        int begins = -1, length = -1, bad = -1;
        for (int t = 0; t <= 4000; t++) {
            String key = Arrays.toString(w.n.wear) + Arrays.toString(w.n.rest) + t % row.size() + "/" + w.n.day % 7;
            Integer then = seen.put(key, t);
            if (then != null) {
                begins = then;
                length = t - then;
                break;
            }
            if (t == 4000) break;
            w.pass(row.get(t % row.size()));
            if (bad < 0 && (w.firstStays >= 0 || w.firstPast() >= 0)) bad = t;
        }
        return new int[] {length > 0 && bad < 0 ? 1 : 0, begins, length, bad}[what];
    }

    // ---- alike roads, by playing them through ----

    public int fewest(int weight, int m, int what) {
        demand(weight >= 1 && weight <= 99 && m >= 1 && m <= 99 && what >= 0 && what <= 2);
        int used = 0;
        while ((used + 1) * weight <= m) used++;
        if (used == 0) return -1;
        for (int k = 1; ; k++) {
            if (rotates(k, used, weight, m)) return new int[] {k, used, k * used}[what];
        }
    }

    boolean rotates(int k, int used, int weight, int m) {
        int[] wear = new int[k], rest = new int[k];
        for (int t = 0; t < 5 * k * used; t++) {
            int turn = t / used % k;
            for (int r = 0; r < k; r++) {
                if (r == turn) {
                    wear[r] += weight;
                    rest[r] = 0;
                } else if (++rest[r] >= told.rest) {
                    wear[r] = 0;
                }
            }
            if (wear[turn] > m) return false;
        }
        return true;
    }

    public int lasts(int k, int weight, int m) {
        demand(k >= 1 && k <= 4 && weight >= 1 && weight <= 99 && m >= 1 && m <= 9 * weight);
        int[][] all = new int[k][];
        for (int i = 0; i < k; i++) all[i] = new int[] {0, told.rest};
        return longest(all, weight, m, new HashMap<>(), new HashSet<>());
    }

    /** The longest run of days from here on; -1 if days can come back to where they were. */
    int longest(int[][] roads, int weight, int m, Map<String, Integer> known, Set<String> open) {
        String key = Arrays.stream(roads).map(Arrays::toString).sorted().toList().toString();
        if (known.containsKey(key)) return known.get(key);
        if (!open.add(key)) return -1;
        int most = 0;
        for (int i = 0; i < roads.length; i++) {
            if (roads[i][0] + weight > m) continue;
            int[][] next = new int[roads.length][];
            for (int j = 0; j < roads.length; j++) {
                int rest = Math.min(told.rest, roads[j][1] + 1);
                next[j] = i == j ? new int[] {roads[j][0] + weight, 0} : new int[] {rest == told.rest ? 0 : roads[j][0], rest};
            }
            int then = longest(next, weight, m, known, open);
            if (then == -1) return -1;
            most = Math.max(most, then + 1);
        }
        open.remove(key);
        known.put(key, most);
        return most;
    }

    // ---- the least ----

    long least;
    int leastFirst;

    void tryAll(Now from, int d, long spent, int first) {
        if (d == 0) {
            if (spent < least) {
                least = spent;
                leastFirst = first;
            }
            return;
        }
        for (int shut = 0; shut < 1 << told.roads.size(); shut++) {
            Walk w = new Walk();
            w.n = from.copy();
            w.pass(shut);
            tryAll(w.n, d - 1, spent + w.cost(), first < 0 ? shut : first);
        }
    }

    public int best(int d, int what) {
        demand(d >= 1 && d <= 3 && what >= 0 && what <= 1);
        if (told.roads.size() > 6) return -2;
        least = Long.MAX_VALUE;
        tryAll(now, d, 0, -1);
        return what == 0 ? (int) least : leastFirst;
    }

    public int gap(int d) {
        demand(d >= 1 && d <= 3);
        if (told.roads.size() > 6) return -2;
        return (int) (new Walk().on(0, d).cost() - best(d, 0));
    }

    // ---- otherwise ----

    public long toll(int t, int days, int what) {
        demand(t >= 0 && t <= 20 && what >= 0 && what <= 1);
        needDays(days);
        Walk w = new Walk();
        w.toll = t;
        w.on(0, days);
        return what == 0 ? w.cost() : w.paid;
    }

    /** The first of the numbers with the least answer. */
    static int firstLeast(int from, int to, java.util.function.IntToLongFunction f) {
        int found = -1;
        long least = Long.MAX_VALUE;
        for (int i = from; i <= to; i++) {
            if (f.applyAsLong(i) < least) {
                least = f.applyAsLong(i);
                found = i;
            }
        }
        return found;
    }

    public int keep(int days) {
        needDays(days);
        return firstLeast(0, 20, t -> toll(t, days, 0));
    }

    public long careless(int going, int days) {
        needGoing(going);
        needDays(days);
        needRow();
        Walk w = new Walk();
        w.heedless = going;
        return w.on(1, days).costWithout(going) - new Walk().on(1, days).costWithout(going);
    }

    public long each(int going, int days) {
        needGoing(going);
        needDays(days);
        Walk w = new Walk();
        w.absent = going;
        return new Walk().on(0, days).costWithout(going) - w.on(0, days).cost();
    }

    public long hold(int going, int h, int days) {
        needGoing(going);
        demand(h >= 1 && h <= told.goings.get(going).h);
        needDays(days);
        Walk w = new Walk();
        w.lateGoing = going;
        w.late = h;
        return new Walk().on(0, days).cost() - w.on(0, days).cost();
    }

    public int who(int days) {
        needDays(days);
        int found = -1;
        long most = 0;
        for (int g = 0; g < told.goings.size(); g++) {
            for (int h = 1; h <= told.goings.get(g).h; h++) {
                if (hold(g, h, days) > most) {
                    most = hold(g, h, days);
                    found = 10 * g + h;
                }
            }
        }
        return found;
    }

    public long more(int road, int days) {
        demand(road >= 0 && road < told.news.size());
        needDays(days);
        Walk w = new Walk();
        w.roads = new ArrayList<>(told.roads);
        w.roads.add(told.news.get(road));
        int n = told.roads.size();
        w.n.wear = Arrays.copyOf(w.n.wear, n + 1);
        w.n.rest = Arrays.copyOf(w.n.rest, n + 1);
        w.n.rest[n] = told.rest;
        return new Walk().on(0, days).cost() - w.on(0, days).cost();
    }

    public int which(int days) {
        needDays(days);
        return firstLeast(0, told.news.size() - 1, r -> -more(r, days));
    }

    public long men(int road, int days) {
        needRoad(road);
        needDays(days);
        Walk w = new Walk();
        w.n.wear[road] = 0;
        w.n.rest[road] = told.rest;
        return new Walk().on(0, days).cost() - w.on(0, days).cost();
    }

    public int beside(int days) {
        needDays(days);
        int r = firstLeast(0, told.roads.size() - 1, x -> -men(x, days));
        return r >= 0 && men(r, days) > 0 ? r : -1;
    }

    public long law(int n, int days) {
        demand(n >= 3 && n <= 11);
        needDays(days);
        Walk w = new Walk();
        w.rest = n;
        for (int r = 0; r < told.roads.size(); r++) {
            if (w.n.rest[r] > n) w.n.rest[r] = n;
            // as at any DAY's end: with n RESTED DAYS the WEAR is 0
            if (w.n.rest[r] == n) w.n.wear[r] = 0;
        }
        return w.on(0, days).cost();
    }

    public int other(int days) {
        needDays(days);
        return firstLeast(3, 11, n -> law(n, days));
    }

    public int fits(long known, int days) {
        demand(days >= 0 && days <= 20 && known >= 0);
        String digits = known == 0 ? "" : Long.toString(known, 3);
        demand(digits.length() <= days);
        Set<Integer> may = new HashSet<>(List.of(told.rest));
        for (char c : ("0".repeat(days - digits.length()) + digits).toCharArray()) {
            Set<Integer> next = new HashSet<>();
            IntUnaryOperator more = r -> Math.min(told.rest, r + 1);
            for (int r : may) {
                if (c != '0') next.add(0);
                if (c != '1') next.add(more.applyAsInt(r));
            }
            may = next;
        }
        return may.stream().mapToInt(r -> 1 << r).sum();
    }

    public long seed(int rule, int days, int seed, int what) {
        needRule(rule, days);
        demand(what >= 0 && what <= 2);
        if (rule == 1) needRow();
        Walk w = new Walk();
        w.lot = seed;
        w.on(rule, days);
        return new long[] {w.cost(), w.went, w.stays}[what];
    }

    public int image() {
        if (images.size() == 3) return -1;
        images.add(new Image(now.copy(), new ArrayList<>(row)));
        return images.size();
    }

    public int on() {
        if (images.isEmpty()) return -1;
        Image i = images.remove(images.size() - 1);
        now = i.now;
        row = i.row;
        return images.size();
    }

    public int count(int what) {
        return what == 0 ? row.size() : what == 1 ? images.size() : what == 2 ? tape.length() : -1;
    }
}
