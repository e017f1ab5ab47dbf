import java.util.NoSuchElementException;

/** A land whose roads wear by use and are as new when left alone for long enough. */
public final class MendingRoads {
    public static final int NONE = -1;

    private static final int MOST_BYTES = 600;
    private static final int BYTES_A_FEED = 20;
    private static final int MOST_CLAUSES = 60;
    private static final int MOST_PLACES = 12;
    private static final int MOST_ROADS = 10;
    private static final int MOST_NEW = 4;
    private static final int MOST_GOINGS = 14;
    private static final int MOST_WET = 8;
    private static final int MOST_ROW = 30;
    private static final int MOST_IMAGES = 3;
    private static final int MOST_DAYS = 366;
    private static final int MOST_WEAR = 99;
    private static final int LEAST_REST = 3;
    private static final int MOST_REST = 11;
    private static final int MOST_TOLL = 20;
    private static final int MOST_KNOWN = 20;
    private static final int MOST_TRIED_ROADS = 6;
    private static final int MOST_TRIED_DAYS = 3;
    private static final int MOST_RING_DAYS = 4000;
    private static final int STAY_COST = 1000;
    private static final int WEEK = 7;
    private static final int SURE = 8;
    private static final int TOO_MANY_ROADS = -2;

    private static final int OPEN = 0;
    private static final int RING = 1;
    private static final int WORST = 2;
    private static final int RESTED = 3;

    /** Columns of a road's facts. */
    private static final int ROAD_A = 0;
    private static final int ROAD_B = 1;
    private static final int ROAD_L = 2;
    private static final int ROAD_S = 3;
    private static final int ROAD_M = 4;
    private static final int ROAD_FACTS = 5;

    /** Columns of a going's facts. */
    private static final int GOING_P = 0;
    private static final int GOING_Q = 1;
    private static final int GOING_D = 2;
    private static final int GOING_W = 3;
    private static final int GOING_C = 4;
    private static final int GOING_H = 5;
    private static final int GOING_FACTS = 6;

    private final Reader reader = new Reader();
    private Land land = new Land();
    private final State now = new State();
    private final State[] images = new State[MOST_IMAGES];
    private int imageCount = 0;
    private final Walk walk = new Walk();
    private final Search search = new Search();
    private final Rounds rounds = new Rounds();
    private final int[] verdict = new int[4];

    public MendingRoads() {
        for (int i = 0; i < images.length; i++) {
            images[i] = new State();
        }
        now.makeNew(land.rest);
    }

    // ---- the land ----

    public int feed(int a, int b, int c, int d, int e) {
        if (reader.tapeLength + BYTES_A_FEED > MOST_BYTES) {
            return NONE;
        }
        reader.putNumber(a);
        reader.putNumber(b);
        reader.putNumber(c);
        reader.putNumber(d);
        reader.putNumber(e);
        return reader.tapeLength;
    }

    public int land(int n) throws IllegalArgumentException {
        demand(n >= 0 && n <= reader.tapeLength);
        reader.read(n);
        if (reader.faultKind != 0) {
            return reader.faultKind - 10;
        }
        Land old = land;
        land = reader.into;
        reader.into = old;
        now.makeNew(land.rest);
        imageCount = 0;
        return land.roads;
    }

    public int fault() {
        return reader.faultPlace;
    }

    public int told(int what) throws IllegalArgumentException {
        demand(what >= 0 && what <= 6);
        switch (what) {
            case 0: return land.places;
            case 1: return land.roads;
            case 2: return land.news;
            case 3: return land.goings;
            case 4: return land.wets;
            case 5: return land.rest;
            default: return now.day;
        }
    }

    public int road(int road, int what) throws IndexOutOfBoundsException, IllegalArgumentException {
        demandRoad(road);
        demand(what >= 0 && what <= 7);
        int[] facts = land.roadFacts[road];
        switch (what) {
            case 5: return now.wear[road];
            case 6: return now.rested[road];
            case 7: return now.isPastUse(land, road) ? NONE : facts[ROAD_L] + facts[ROAD_S] * now.wear[road];
            default: return facts[what];
        }
    }

    public int going(int going, int what) throws NoSuchElementException, IllegalArgumentException {
        demandGoing(going);
        demand(what >= 0 && what < GOING_FACTS);
        return land.goingFacts[going][what];
    }

    // ---- ways, and days that go by ----

    public int way(int going, int shut) throws NoSuchElementException, IllegalArgumentException {
        demandGoing(going);
        demandShut(shut);
        return seekWay(going, shut) ? walk.ways.pathMinutes : NONE;
    }

    public int by(int going, int shut, int i) throws NoSuchElementException, IllegalArgumentException {
        demandGoing(going);
        demandShut(shut);
        if (!seekWay(going, shut) || i < 0 || i >= walk.ways.pathLength) {
            return NONE;
        }
        return walk.ways.path[i];
    }

    private boolean seekWay(int going, int shut) {
        walk.begin(land, now);
        walk.lookRound(shut);
        int[] facts = land.goingFacts[going];
        return walk.ways.find(facts[GOING_P], facts[GOING_Q]);
    }

    public int shuts(int rule) throws IllegalArgumentException {
        demand(rule == OPEN || rule == WORST || rule == RESTED);
        walk.begin(land, now);
        return walk.shutBy(rule);
    }

    public int day(int shut) throws IllegalArgumentException {
        demandShut(shut);
        walk.begin(land, now);
        walk.passDay(shut);
        now.take(walk.state);
        return (int) walk.tally.cost;
    }

    public long run(int rule, int days) throws IllegalArgumentException, IllegalStateException {
        demandRule(rule);
        demandDays(days);
        demandRowFor(rule);
        walk.begin(land, now);
        long cost = walk.goOn(rule, days);
        now.take(walk.state);
        return cost;
    }

    public long would(int rule, int days, int what) throws IllegalArgumentException, IllegalStateException {
        demandRule(rule);
        demandDays(days);
        demand(what >= 0 && what <= 3);
        demandRowFor(rule);
        walk.begin(land, now);
        long cost = walk.goOn(rule, days);
        switch (what) {
            case 0: return cost;
            case 1: return walk.tally.stays;
            case 2: return walk.state.pastUseCount(land);
            default: return walk.state.mostWear(land);
        }
    }

    // ---- the row ----

    public int row(int shut) throws IllegalArgumentException {
        demandShut(shut);
        if (now.rowLength >= MOST_ROW) {
            return -1;
        }
        now.row[now.rowLength] = shut;
        now.rowLength++;
        return now.rowLength;
    }

    public int clear() {
        int gone = now.rowLength;
        now.rowLength = 0;
        return gone;
    }

    public int judge(int what) throws IllegalArgumentException {
        demand(what >= 0 && what < verdict.length);
        judgeRow();
        return verdict[what];
    }

    private void judgeRow() {
        for (int i = 0; i < verdict.length; i++) {
            verdict[i] = NONE;
        }
        walk.begin(land, now);
        for (int i = 0; i < now.rowLength; i++) {
            walk.passDay(now.row[i]);
            noteVerdict(0, i, walk.state.firstPastUse(land));
            noteVerdict(2, i, walk.tally.firstStays);
        }
    }

    private void noteVerdict(int at, int rowDay, int whom) {
        if (verdict[at] == NONE && whom != NONE) {
            verdict[at] = rowDay;
            verdict[at + 1] = whom;
        }
    }

    public long minutes() {
        if (now.rowLength == 0) {
            return 0;
        }
        walk.begin(land, now);
        return walk.goOn(RING, now.rowLength);
    }

    public int ever(int what) throws IllegalArgumentException, IllegalStateException {
        demand(what >= 0 && what <= 3);
        demandRow();
        walk.begin(land, now);
        walk.plan.dry = true;
        rounds.follow(walk);
        switch (what) {
            case 0: return rounds.lastsWell() ? 1 : 0;
            case 1: return rounds.begins;
            case 2: return rounds.length;
            default: return rounds.firstBad;
        }
    }

    // ---- alike roads ----

    public int fewest(int weight, int m, int what) throws IllegalArgumentException {
        demand(weight >= 1 && weight <= 99);
        demand(m >= 1 && m <= 99);
        demand(what >= 0 && what <= 2);
        int used = weight > 0 ? m / weight : 0;
        if (used == 0) {
            return NONE;
        }
        int roads = (land.rest + used - 1) / used + 1;
        switch (what) {
            case 0: return roads;
            case 1: return used;
            default: return roads * used;
        }
    }

    /**
     * No worn road can come whole while the others, each used but once through, bear fewer
     * days than a rest takes; then nothing ever mends, and all that is to be had is k times the days of one.
     */
    public int lasts(int k, int weight, int m) throws IllegalArgumentException {
        demand(k >= 1 && k <= 4);
        demand(weight >= 1 && weight <= 99);
        demand(m >= 1 && m <= 9 * weight);
        int used = weight > 0 ? m / weight : 0;
        return (k - 1) * used >= land.rest ? NONE : k * used;
    }

    // ---- the least by going through all ----

    public int best(int d, int what) throws IllegalArgumentException {
        demand(d >= 1 && d <= MOST_TRIED_DAYS);
        demand(what == 0 || what == 1);
        if (land.roads > MOST_TRIED_ROADS) {
            return TOO_MANY_ROADS;
        }
        search.seek(walk, land, now, d);
        return what == 0 ? (int) search.least : search.firstShut;
    }

    public int gap(int d) throws IllegalArgumentException {
        demand(d >= 1 && d <= MOST_TRIED_DAYS);
        if (land.roads > MOST_TRIED_ROADS) {
            return TOO_MANY_ROADS;
        }
        long open = openCost(d);
        search.seek(walk, land, now, d);
        return (int) (open - search.least);
    }

    // ---- what would be otherwise, over some days from now on ----

    private long openCost(int days) {
        walk.begin(land, now);
        return walk.goOn(OPEN, days);
    }

    public long toll(int t, int days, int what) throws IllegalArgumentException {
        demand(t >= 0 && t <= MOST_TOLL);
        demandDays(days);
        demand(what == 0 || what == 1);
        long cost = tollCost(t, days);
        return what == 0 ? cost : walk.tally.paid;
    }

    private long tollCost(int t, int days) {
        walk.begin(land, now);
        walk.plan.toll = t;
        return walk.goOn(OPEN, days);
    }

    public int keep(int days) throws IllegalArgumentException {
        demandDays(days);
        int kept = 0;
        long least = tollCost(0, days);
        for (int t = 1; t <= MOST_TOLL; t++) {
            long cost = tollCost(t, days);
            if (cost < least) {
                least = cost;
                kept = t;
            }
        }
        return kept;
    }

    public long careless(int going, int days)
            throws NoSuchElementException, IllegalArgumentException, IllegalStateException {
        demandGoing(going);
        demandDays(days);
        demandRow();
        long heedful = othersCost(going, RING, days, false);
        return othersCost(going, RING, days, true) - heedful;
    }

    private long othersCost(int going, int rule, int days, boolean heedless) {
        walk.begin(land, now);
        walk.plan.marked = going;
        walk.plan.heedless = heedless;
        return walk.goOn(rule, days) - walk.tally.markedCost;
    }

    public long each(int going, int days) throws NoSuchElementException, IllegalArgumentException {
        demandGoing(going);
        demandDays(days);
        long with = othersCost(going, OPEN, days, false);
        walk.begin(land, now);
        walk.plan.marked = going;
        walk.plan.absent = true;
        return with - walk.goOn(OPEN, days);
    }

    public long hold(int going, int h, int days) throws NoSuchElementException, IllegalArgumentException {
        demandGoing(going);
        demand(h >= 1 && h <= land.goingFacts[going][GOING_H]);
        demandDays(days);
        return openCost(days) - heldCost(going, h, days);
    }

    private long heldCost(int going, int h, int days) {
        walk.begin(land, now);
        walk.plan.marked = going;
        walk.plan.later = h;
        return walk.goOn(OPEN, days);
    }

    public int who(int days) throws IllegalArgumentException {
        demandDays(days);
        long least = openCost(days);
        int found = NONE;
        for (int going = 0; going < land.goings; going++) {
            int wait = land.goingFacts[going][GOING_H];
            for (int h = 1; h <= wait; h++) {
                long cost = heldCost(going, h, days);
                if (cost < least) {
                    least = cost;
                    found = 10 * going + h;
                }
            }
        }
        return found;
    }

    public long more(int road, int days) throws IllegalArgumentException {
        demand(road >= 0 && road < land.news);
        demandDays(days);
        return openCost(days) - newCost(road, days);
    }

    private long newCost(int road, int days) {
        walk.begin(land, now);
        walk.plan.extra = road;
        walk.state.makeWhole(land.roads, land.rest);
        return walk.goOn(OPEN, days);
    }

    public int which(int days) throws IllegalArgumentException {
        demandDays(days);
        int found = NONE;
        long least = 0;
        for (int road = 0; road < land.news; road++) {
            long cost = newCost(road, days);
            if (found == NONE || cost < least) {
                least = cost;
                found = road;
            }
        }
        return found;
    }

    public long men(int road, int days) throws IndexOutOfBoundsException, IllegalArgumentException {
        demandRoad(road);
        demandDays(days);
        return openCost(days) - mendedCost(road, days);
    }

    private long mendedCost(int road, int days) {
        walk.begin(land, now);
        walk.state.makeWhole(road, land.rest);
        return walk.goOn(OPEN, days);
    }

    public int beside(int days) throws IllegalArgumentException {
        demandDays(days);
        long least = openCost(days);
        int found = NONE;
        for (int road = 0; road < land.roads; road++) {
            long cost = mendedCost(road, days);
            if (cost < least) {
                least = cost;
                found = road;
            }
        }
        return found;
    }

    public long law(int n, int days) throws IllegalArgumentException {
        demand(n >= LEAST_REST && n <= MOST_REST);
        demandDays(days);
        return lawCost(n, days);
    }

    private long lawCost(int n, int days) {
        walk.begin(land, now);
        walk.plan.rest = n;
        for (int road = 0; road < land.roads; road++) {
            // Just n will do: under this law a road that has rested so long is whole already.
            if (walk.state.rested[road] >= n) {
                walk.state.makeWhole(road, n);
            }
        }
        return walk.goOn(OPEN, days);
    }

    public int other(int days) throws IllegalArgumentException {
        demandDays(days);
        int found = LEAST_REST;
        long least = lawCost(LEAST_REST, days);
        for (int n = LEAST_REST + 1; n <= MOST_REST; n++) {
            long cost = lawCost(n, days);
            if (cost < least) {
                least = cost;
                found = n;
            }
        }
        return found;
    }

    // ---- what is known, and lots ----

    public int fits(long known, int days) throws IllegalArgumentException {
        demand(days >= 0 && days <= MOST_KNOWN);
        long place = 1;
        for (int i = 0; i < days; i++) {
            place *= 3;
        }
        demand(known >= 0 && known < place);
        int whole = 1 << land.rest;
        int may = whole;
        for (int i = 0; i < days && place >= 3; i++) {
            place /= 3;
            may = afterKnown(may, (int) (known / place % 3), whole);
        }
        return may;
    }

    private static int afterKnown(int may, int digit, int whole) {
        int unused = ((may << 1) & (2 * whole - 1)) | (may & whole);
        if (digit == 0) {
            return unused;
        }
        return digit == 1 ? 1 : unused | 1;
    }

    public long seed(int rule, int days, int seed, int what)
            throws IllegalArgumentException, IllegalStateException {
        demandRule(rule);
        demandDays(days);
        demand(what >= 0 && what <= 2);
        demandRowFor(rule);
        walk.begin(land, now);
        walk.plan.lots = true;
        walk.plan.lot = seed;
        long cost = walk.goOn(rule, days);
        switch (what) {
            case 0: return cost;
            case 1: return walk.tally.went;
            default: return walk.tally.stays;
        }
    }

    // ---- images ----

    public int image() {
        if (imageCount >= images.length) {
            return -1;
        }
        images[imageCount].take(now);
        imageCount++;
        return imageCount;
    }

    public int on() {
        if (imageCount <= 0) {
            return -1;
        }
        imageCount--;
        now.take(images[imageCount]);
        return imageCount;
    }

    public int count(int what) {
        switch (what) {
            case 0: return now.rowLength;
            case 1: return imageCount;
            case 2: return reader.tapeLength;
            default: return NONE;
        }
    }

    // ---- what may be asked ----

    private static void demand(boolean good) {
        if (!good) {
            throw new IllegalArgumentException("no such number here");
        }
    }

    private static void demandDays(int days) {
        demand(days >= 1 && days <= MOST_DAYS);
    }

    private static void demandRule(int rule) {
        demand(rule >= OPEN && rule <= RESTED);
    }

    private void demandShut(int shut) {
        demand(shut >= 0 && shut < 1 << land.roads);
    }

    private void demandRoad(int road) {
        if (road < 0 || road >= land.roads) {
            throw new IndexOutOfBoundsException("no such road");
        }
    }

    private void demandGoing(int going) {
        if (going < 0 || going >= land.goings) {
            throw new NoSuchElementException("no such going");
        }
    }

    private void demandRowFor(int rule) {
        if (rule == RING) {
            demandRow();
        }
    }

    private void demandRow() {
        if (now.rowLength == 0) {
            throw new IllegalStateException("a ring without a row");
        }
    }

    /** What a text tells; roads that might be stand behind the room for the others. */
    private static final class Land {
        int places;
        int roads;
        int news;
        int goings;
        int wets;
        int rest;
        final int[][] roadFacts = new int[MOST_ROADS + MOST_NEW][ROAD_FACTS];
        final int[][] goingFacts = new int[MOST_GOINGS][GOING_FACTS];
        final int[] wetDays = new int[MOST_WET];

        Land() {
            makeEmpty();
        }

        private void makeEmpty() {
            places = 4;
            roads = 0;
            news = 0;
            goings = 0;
            wets = 0;
            rest = 9;
        }

        boolean isWet(int aDay) {
            for (int i = 0; i < wets; i++) {
                if (wetDays[i] == aDay) {
                    return true;
                }
            }
            return false;
        }

        boolean goesOn(int going, int aDay) {
            return (goingFacts[going][GOING_D] >> (aDay % WEEK) & 1) == 1;
        }

        /** With one that might be, it is the road behind all others. */
        int[] factsWith(int road, int extra) {
            return road < roads || extra == NONE ? roadFacts[road] : roadFacts[MOST_ROADS + extra];
        }

        int roadsWith(int extra) {
            return extra == NONE ? roads : roads + 1;
        }
    }

    /** The tape, and the reading of a land's text from it; a fault ends the reading. */
    private static final class Reader {
        private static final int NOT_THERE = 1;
        private static final int NONE_SUCH = 2;
        private static final int TOO_MANY = 3;
        private static final int TOO_LATE = 4;

        private static final int PLACES = 0;
        private static final int ROAD = 1;
        private static final int NEW = 2;
        private static final int GOING = 3;
        private static final int CHANCE = 4;
        private static final int WAIT = 5;
        private static final int WET = 6;
        private static final int LAW = 7;

        private static final int[] NUMBERS_OF = {1, 5, 5, 4, 2, 2, 1, 1};
        private static final int[] ROAD_LEAST = {0, 0, 1, 0, 1};
        private static final int[] ROAD_MOST = {0, 0, 99, 9, 30};
        private static final int[] GOING_LEAST = {0, 0, 1, 1};
        private static final int[] GOING_MOST = {0, 0, 127, 9};
        /** Above every number that may stand in a text, so that long ones don't wrap. */
        private static final int TOO_GREAT = 100000;

        int tapeLength = 0;
        int faultKind = 0;
        int faultPlace = NONE;
        Land into = new Land();
        private final int[] tape = new int[MOST_BYTES];
        private final int[] numbers = new int[ROAD_FACTS];
        private int length;
        private int at;
        private int clauses;

        void putNumber(int number) {
            for (int shift = 24; shift >= 0 && tapeLength < tape.length; shift -= 8) {
                tape[tapeLength] = number >>> shift & 255;
                tapeLength++;
            }
        }

        /** The tape is empty then. */
        void read(int n) {
            length = Math.min(n, tapeLength);
            tapeLength = 0;
            into.makeEmpty();
            at = 0;
            clauses = 0;
            faultKind = 0;
            faultPlace = NONE;
            skipBlanks();
            for (int i = 0; i <= MOST_CLAUSES && at < length && faultKind == 0; i++) {
                readClause();
                skipBlanks();
            }
        }

        private void fail(int kind, int place) {
            faultKind = kind;
            faultPlace = place;
        }

        private void skipBlanks() {
            while (at < length && tape[at] == ' ') {
                at++;
            }
        }

        private void readClause() {
            int start = at;
            while (at < length && tape[at] >= 'a' && tape[at] <= 'z') {
                at++;
            }
            int kind = kindOf(start);
            int wrong = faultOfWord(kind);
            if (wrong != 0) {
                fail(wrong, start);
                return;
            }
            for (int i = 0; i < NUMBERS_OF[kind] && faultKind == 0; i++) {
                readNumber(kind, i);
            }
            if (faultKind == 0) {
                readEnd();
            }
            if (faultKind == 0) {
                clauses++;
                tell(kind);
            }
        }

        private int kindOf(int start) {
            if (isWord(start, "places")) {
                return PLACES;
            }
            if (isWord(start, "road")) {
                return ROAD;
            }
            if (isWord(start, "new")) {
                return NEW;
            }
            if (isWord(start, "going")) {
                return GOING;
            }
            if (isWord(start, "chance")) {
                return CHANCE;
            }
            if (isWord(start, "wait")) {
                return WAIT;
            }
            if (isWord(start, "wet")) {
                return WET;
            }
            return isWord(start, "law") ? LAW : NONE;
        }

        private boolean isWord(int start, String word) {
            if (at - start != word.length()) {
                return false;
            }
            for (int i = 0; i < word.length(); i++) {
                if (tape[start + i] != word.charAt(i)) {
                    return false;
                }
            }
            return true;
        }

        /** Of several at one place the least counts. */
        private int faultOfWord(int kind) {
            if (kind == NONE) {
                return NOT_THERE;
            }
            if (clauses >= MOST_CLAUSES || isOneTooMany(kind)) {
                return TOO_MANY;
            }
            return kind == PLACES && clauses > 0 ? TOO_LATE : 0;
        }

        private boolean isOneTooMany(int kind) {
            switch (kind) {
                case ROAD: return into.roads >= MOST_ROADS;
                case NEW: return into.news >= MOST_NEW;
                case GOING: return into.goings >= MOST_GOINGS;
                case WET: return into.wets >= MOST_WET;
                default: return false;
            }
        }

        private void readNumber(int kind, int i) {
            skipBlanks();
            int start = at;
            int value = 0;
            while (at < length && tape[at] >= '0' && tape[at] <= '9') {
                value = Math.min(TOO_GREAT, value * 10 + tape[at] - '0');
                at++;
            }
            if (at == start) {
                fail(NOT_THERE, start);
            } else if (value < leastOf(kind, i) || value > mostOf(kind, i) || isSameEnd(kind, i, value)) {
                fail(NONE_SUCH, start);
            } else {
                numbers[i] = value;
            }
        }

        private void readEnd() {
            skipBlanks();
            if (at < length && tape[at] == ';') {
                at++;
            } else {
                fail(NOT_THERE, at);
            }
        }

        private boolean isSameEnd(int kind, int i, int value) {
            return (kind == ROAD || kind == NEW || kind == GOING) && i == 1 && value == numbers[0];
        }

        private int leastOf(int kind, int i) {
            switch (kind) {
                case PLACES: return 2;
                case ROAD:
                case NEW: return ROAD_LEAST[i];
                case GOING: return GOING_LEAST[i];
                case CHANCE: return i == 0 ? 0 : 1;
                case LAW: return LEAST_REST;
                default: return 0;
            }
        }

        private int mostOf(int kind, int i) {
            switch (kind) {
                case PLACES: return MOST_PLACES;
                case ROAD:
                case NEW: return i <= 1 ? into.places - 1 : ROAD_MOST[i];
                case GOING: return i <= 1 ? into.places - 1 : GOING_MOST[i];
                case CHANCE: return i == 0 ? into.goings - 1 : SURE;
                case WAIT: return i == 0 ? into.goings - 1 : 6;
                case WET: return 999;
                default: return MOST_REST;
            }
        }

        private void tell(int kind) {
            switch (kind) {
                case PLACES: into.places = numbers[0]; break;
                case ROAD: tellRoad(into.roads); into.roads++; break;
                case NEW: tellRoad(MOST_ROADS + into.news); into.news++; break;
                case GOING: tellGoing(into.goings); into.goings++; break;
                case CHANCE: into.goingFacts[numbers[0]][GOING_C] = numbers[1]; break;
                case WAIT: into.goingFacts[numbers[0]][GOING_H] = numbers[1]; break;
                case WET: tellWet(numbers[0]); break;
                default: into.rest = numbers[0]; break;
            }
        }

        private void tellRoad(int where) {
            for (int i = 0; i < ROAD_FACTS; i++) {
                into.roadFacts[where][i] = numbers[i];
            }
        }

        private void tellGoing(int where) {
            int[] facts = into.goingFacts[where];
            for (int i = 0; i < NUMBERS_OF[GOING]; i++) {
                facts[i] = numbers[i];
            }
            facts[GOING_C] = SURE;
            facts[GOING_H] = 0;
        }

        private void tellWet(int aDay) {
            if (!into.isWet(aDay)) {
                into.wetDays[into.wets] = aDay;
                into.wets++;
            }
        }
    }

    /** What changes by days and by what is told beside the text; one road more than a land has, for one that might be. */
    private static final class State {
        int day;
        final int[] wear = new int[MOST_ROADS + 1];
        final int[] rested = new int[MOST_ROADS + 1];
        final int[] row = new int[MOST_ROW];
        int rowLength;

        void makeNew(int rest) {
            day = 0;
            rowLength = 0;
            for (int road = 0; road < wear.length; road++) {
                makeWhole(road, rest);
            }
        }

        void makeWhole(int road, int rest) {
            wear[road] = 0;
            rested[road] = rest;
        }

        void take(State from) {
            day = from.day;
            rowLength = from.rowLength;
            System.arraycopy(from.wear, 0, wear, 0, wear.length);
            System.arraycopy(from.rested, 0, rested, 0, rested.length);
            System.arraycopy(from.row, 0, row, 0, row.length);
        }

        boolean isPastUse(Land land, int road) {
            return wear[road] > land.roadFacts[road][ROAD_M];
        }

        int firstPastUse(Land land) {
            for (int road = 0; road < land.roads; road++) {
                if (isPastUse(land, road)) {
                    return road;
                }
            }
            return NONE;
        }

        int pastUseCount(Land land) {
            int found = 0;
            for (int road = 0; road < land.roads; road++) {
                if (isPastUse(land, road)) {
                    found++;
                }
            }
            return found;
        }

        int mostWear(Land land) {
            int most = 0;
            for (int road = 0; road < land.roads; road++) {
                most = Math.max(most, wear[road]);
            }
            return most;
        }

        /** Used by so much weight, or left alone. */
        void endDay(int road, int weight, int rest) {
            if (weight > 0) {
                wear[road] = Math.min(MOST_WEAR, wear[road] + weight);
                rested[road] = 0;
                return;
            }
            rested[road] = Math.min(rest, rested[road] + 1);
            if (rested[road] == rest) {
                wear[road] = 0;
            }
        }
    }

    /** What is otherwise on a walk through some days than the land has it; one going may be marked. */
    private static final class Plan {
        int toll;
        int marked;
        boolean heedless;
        boolean absent;
        int later;
        int extra;
        int rest;
        boolean dry;
        boolean lots;
        int lot;

        void makePlain(Land land) {
            toll = 0;
            marked = NONE;
            heedless = false;
            absent = false;
            later = 0;
            extra = NONE;
            rest = land.rest;
            dry = false;
            lots = false;
            lot = 0;
        }

        boolean isHeedless(int going) {
            return heedless && going == marked;
        }

        boolean isAbsent(int going) {
            return absent && going == marked;
        }

        int delayOf(int going) {
            return going == marked ? later : 0;
        }

        int nextLot() {
            lot = lot * 1103515245 + 12345;
            return lot >>> 16 & 7;
        }
    }

    /** What a walk came to. */
    private static final class Tally {
        long cost;
        long markedCost;
        long paid;
        int stays;
        int went;
        /** Of the latest day: who stays first, and the most minutes of a way. */
        int firstStays;
        int longest;

        void makeEmpty() {
            cost = 0;
            markedCost = 0;
            paid = 0;
            stays = 0;
            went = 0;
            beginDay();
        }

        void beginDay() {
            firstStays = NONE;
            longest = 0;
        }

        void noteStay(int going) {
            stays++;
            cost += STAY_COST;
            if (firstStays == NONE) {
                firstStays = going;
            }
        }

        void noteWay(Ways ways) {
            went++;
            cost += ways.pathMinutes;
            paid += ways.pathPaid;
            longest = Math.max(longest, ways.pathMinutes);
        }
    }

    /** The ways over roads that may be gone along, as they are at a day's beginning. */
    private static final class Ways {
        /** Above every way's minutes, and far below where sums wrap. */
        private static final int FAR = 1000000;

        int pathLength;
        int pathMinutes;
        int pathPaid;
        final int[] path = new int[MOST_PLACES];
        private final int[] number = new int[MOST_ROADS + 1];
        private final int[] oneEnd = new int[MOST_ROADS + 1];
        private final int[] otherEnd = new int[MOST_ROADS + 1];
        private final int[] minutesOf = new int[MOST_ROADS + 1];
        private final int[] tollOf = new int[MOST_ROADS + 1];
        private final int[] distance = new int[MOST_PLACES * MOST_PLACES];
        private int usable;
        private int places;
        /** To which places the distances are known already: goings often share their ends. */
        private int measured;

        void lookRound(Land land, State state, Plan plan, int shut) {
            places = land.places;
            usable = 0;
            measured = 0;
            int roads = land.roadsWith(plan.extra);
            for (int road = 0; road < roads && road < number.length; road++) {
                int[] facts = land.factsWith(road, plan.extra);
                int wear = state.wear[road];
                if ((shut >> road & 1) == 0 && wear <= facts[ROAD_M]) {
                    number[usable] = road;
                    oneEnd[usable] = facts[ROAD_A];
                    otherEnd[usable] = facts[ROAD_B];
                    minutesOf[usable] = facts[ROAD_L] + facts[ROAD_S] * wear;
                    tollOf[usable] = plan.toll * wear;
                    usable++;
                }
            }
        }

        /** The first of the shortest ways: at each place the first road that still leads on one of them. */
        boolean find(int from, int to) {
            pathLength = 0;
            pathMinutes = 0;
            pathPaid = 0;
            if ((measured >> to & 1) == 0) {
                measure(to);
            }
            if (distance[to * MOST_PLACES + from] >= FAR) {
                return false;
            }
            int here = from;
            for (int step = 0; step < places && here != to; step++) {
                here = stepOn(here, to * MOST_PLACES);
            }
            return true;
        }

        private int stepOn(int here, int base) {
            for (int i = 0; i < usable; i++) {
                int there = acrossFrom(here, i);
                if (there != NONE && pathLength < path.length
                        && distance[base + there] + minutesOf[i] + tollOf[i] == distance[base + here]) {
                    path[pathLength] = number[i];
                    pathLength++;
                    pathMinutes += minutesOf[i];
                    pathPaid += tollOf[i];
                    return there;
                }
            }
            return here;
        }

        private int acrossFrom(int here, int i) {
            if (oneEnd[i] == here) {
                return otherEnd[i];
            }
            return otherEnd[i] == here ? oneEnd[i] : NONE;
        }

        private void measure(int to) {
            int base = to * MOST_PLACES;
            for (int place = 0; place < places; place++) {
                distance[base + place] = FAR;
            }
            distance[base + to] = 0;
            measured |= 1 << to;
            boolean better = true;
            for (int pass = 0; pass < places && better; pass++) {
                better = false;
                for (int i = 0; i < usable; i++) {
                    int one = base + oneEnd[i];
                    int other = base + otherEnd[i];
                    int along = minutesOf[i] + tollOf[i];
                    if (distance[one] + along < distance[other]) {
                        distance[other] = distance[one] + along;
                        better = true;
                    } else if (distance[other] + along < distance[one]) {
                        distance[one] = distance[other] + along;
                        better = true;
                    }
                }
            }
        }
    }

    /** What the rules shut that look at the roads. */
    private static final class Gate {
        private final int[] group = new int[MOST_PLACES];

        int shutWorst(Land land, State state) {
            int worst = NONE;
            for (int road = 0; road < land.roads; road++) {
                boolean isWorn = 2 * state.wear[road] > land.roadFacts[road][ROAD_M];
                if (isWorn && (worst == NONE || state.wear[road] > state.wear[worst])) {
                    worst = road;
                }
            }
            return worst != NONE && allGetThrough(land, state, 1 << worst) ? 1 << worst : 0;
        }

        int shutRested(Land land, State state) {
            int shut = 0;
            for (int road = 0; road < land.roads; road++) {
                boolean isMending = state.wear[road] > 0 && state.rested[road] >= 1;
                if (isMending && allGetThrough(land, state, shut | 1 << road)) {
                    shut |= 1 << road;
                }
            }
            return shut;
        }

        private boolean allGetThrough(Land land, State state, int shut) {
            groupPlaces(land, state, shut);
            for (int going = 0; going < land.goings; going++) {
                int[] facts = land.goingFacts[going];
                if (land.goesOn(going, state.day) && group[facts[GOING_P]] != group[facts[GOING_Q]]) {
                    return false;
                }
            }
            return true;
        }

        private void groupPlaces(Land land, State state, int shut) {
            for (int place = 0; place < land.places; place++) {
                group[place] = place;
            }
            for (int road = 0; road < land.roads; road++) {
                if ((shut >> road & 1) == 0 && !state.isPastUse(land, road)) {
                    int[] facts = land.roadFacts[road];
                    join(land.places, group[facts[ROAD_A]], group[facts[ROAD_B]]);
                }
            }
        }

        private void join(int places, int kept, int gone) {
            for (int place = 0; place < places; place++) {
                if (group[place] == gone) {
                    group[place] = kept;
                }
            }
        }
    }

    /** Goes through days in a state of its own. */
    private static final class Walk {
        final Ways ways = new Ways();
        final Plan plan = new Plan();
        final Tally tally = new Tally();
        private final Gate gate = new Gate();
        private final int[] weights = new int[MOST_ROADS + 1];
        final State state = new State();
        Land land = new Land();
        private int daysGone;

        void begin(Land ofLand, State from) {
            land = ofLand;
            state.take(from);
            daysGone = 0;
            plan.makePlain(ofLand);
            tally.makeEmpty();
        }

        long goOn(int rule, int days) {
            for (int i = 0; i < days; i++) {
                passDay(shutBy(rule));
            }
            return tally.cost;
        }

        int shutBy(int rule) {
            switch (rule) {
                case RING: return state.rowLength > 0 ? state.row[daysGone % state.rowLength] : 0;
                case WORST: return gate.shutWorst(land, state);
                case RESTED: return gate.shutRested(land, state);
                default: return 0;
            }
        }

        void lookRound(int shut) {
            ways.lookRound(land, state, plan, shut);
        }

        void passDay(int shut) {
            tally.beginDay();
            lookRound(shut);
            for (int road = 0; road < weights.length; road++) {
                weights[road] = 0;
            }
            for (int going = 0; going < land.goings; going++) {
                if (setsOut(going)) {
                    send(going, shut);
                }
            }
            endDay();
        }

        private boolean setsOut(int going) {
            int delay = plan.delayOf(going);
            if (plan.isAbsent(going) || delay > daysGone || !land.goesOn(going, state.day - delay)) {
                return false;
            }
            int chance = land.goingFacts[going][GOING_C];
            return !plan.lots || chance >= SURE || plan.nextLot() < chance;
        }

        private void send(int going, int shut) {
            long before = tally.cost;
            boolean isHeedless = plan.isHeedless(going);
            if (isHeedless) {
                lookRound(0);
            }
            int[] facts = land.goingFacts[going];
            if (ways.find(facts[GOING_P], facts[GOING_Q])) {
                tally.noteWay(ways);
                loadWay(facts[GOING_W]);
            } else {
                tally.noteStay(going);
            }
            if (isHeedless) {
                lookRound(shut);
            }
            if (going == plan.marked) {
                tally.markedCost += tally.cost - before;
            }
        }

        private void loadWay(int weight) {
            for (int i = 0; i < ways.pathLength; i++) {
                weights[ways.path[i]] += weight;
            }
        }

        private void endDay() {
            int wet = !plan.dry && land.isWet(state.day) ? 1 : 0;
            int roads = land.roadsWith(plan.extra);
            for (int road = 0; road < roads && road < weights.length; road++) {
                state.endDay(road, weights[road] + wet, plan.rest);
            }
            state.day++;
            daysGone++;
        }
    }

    /** The least cost over a few days, over all sets of shut roads. */
    private static final class Search {
        /** Above what any few days cost. */
        private static final long UNTRIED = 1L << 40;

        long least;
        int firstShut;
        /** As it is at the beginning of each day. */
        private final State[] levels = new State[MOST_TRIED_DAYS + 1];
        private int days;

        Search() {
            for (int i = 0; i < levels.length; i++) {
                levels[i] = new State();
            }
        }

        void seek(Walk walk, Land land, State from, int d) {
            days = Math.min(d, MOST_TRIED_DAYS);
            least = UNTRIED;
            firstShut = 0;
            levels[0].take(from);
            tryDays(walk, land, 0, 0, 0);
        }

        private void tryDays(Walk walk, Land land, int depth, long spent, int first) {
            if (depth >= days) {
                least = spent;
                firstShut = first;
                return;
            }
            int sets = 1 << land.roads;
            boolean canBeBetter = true;
            for (int shut = 0; shut < sets && canBeBetter; shut++) {
                walk.begin(land, levels[depth]);
                walk.passDay(shut);
                long cost = spent + walk.tally.cost;
                // On the last day shutting helps only where to stay costs less than to go.
                if (shut == 0 && depth == days - 1) {
                    canBeBetter = walk.tally.longest > STAY_COST;
                }
                if (cost < least) {
                    levels[depth + 1].take(walk.state);
                    tryDays(walk, land, depth + 1, cost, depth == 0 ? shut : first);
                }
            }
        }
    }

    /** The row as a ring, till all is as it was. */
    private static final class Rounds {
        private static final int ROADS_A_MARK = 5;
        private static final int BITS_OF_WEAR = 7;
        private static final int BITS_OF_REST = 4;

        int begins;
        int length;
        int firstBad;
        private final long[] lowMarks = new long[MOST_RING_DAYS + 1];
        private final long[] highMarks = new long[MOST_RING_DAYS + 1];

        void follow(Walk walk) {
            begins = NONE;
            length = NONE;
            firstBad = NONE;
            int rowLength = walk.state.rowLength;
            int stride = rowLength % WEEK == 0 ? Math.max(rowLength, WEEK) : rowLength * WEEK;
            mark(0, walk.state);
            for (int gone = 1; gone <= MOST_RING_DAYS && length == NONE; gone++) {
                walk.passDay(walk.shutBy(RING));
                boolean isBad = walk.tally.firstStays != NONE || walk.state.firstPastUse(walk.land) != NONE;
                if (firstBad == NONE && isBad) {
                    firstBad = gone - 1;
                }
                mark(gone, walk.state);
                lookBack(gone, stride);
            }
        }

        boolean lastsWell() {
            return length != NONE && firstBad == NONE;
        }

        private void mark(int gone, State state) {
            lowMarks[gone] = packed(state, 0);
            highMarks[gone] = packed(state, ROADS_A_MARK);
        }

        private static long packed(State state, int firstRoad) {
            long mark = 0;
            for (int road = firstRoad; road < firstRoad + ROADS_A_MARK && road < MOST_ROADS; road++) {
                mark = mark << BITS_OF_WEAR | state.wear[road];
                mark = mark << BITS_OF_REST | state.rested[road];
            }
            return mark;
        }

        /** Only every so many days are the place of the row and that of the week the same. */
        private void lookBack(int gone, int stride) {
            for (int then = gone - stride; then >= 0 && length == NONE; then -= stride) {
                if (lowMarks[then] == lowMarks[gone] && highMarks[then] == highMarks[gone]) {
                    begins = then;
                    length = gone - then;
                }
            }
        }
    }
}
