/** The sentences of ==== 4 and of the promises 23 to 39: what would be otherwise, what is known, lots, images. */
final class OtherwiseSentencesTest extends Sentences {
    private static final int[] NO_DAYS = {0, -1, 367, Integer.MIN_VALUE, Integer.MAX_VALUE};

    public static void main(String[] args) {
        in("==== 4");
        soManyDays();
        tolls();
        bestToll();
        careless();
        alone();
        held();
        newRoad();
        men();
        laws();
        known();
        byLots();
        tollAndKeep();
        othersAndHeld();
        moreAndMen();
        lawAndOther();
        fitsAndSeed();
        images();
        String[] parts = new String[18];
        for (int i = 0; i < 17; i++) parts[i] = "Promise " + (23 + i);
        parts[17] = "==== 4";
        endAll(parts);
    }

    // ---- ==== 4 ----

    private static void soManyDays() {
        says("Over so many DAYS (1 to 366) from the state as it is; nothing stays changed:");
        Of[] calls = {(w, d) -> w.toll(3, d, 0), (w, d) -> w.keep(d), (w, d) -> w.careless(0, d), (w, d) -> w.each(0, d), (w, d) -> w.hold(1, 3, d),
            (w, d) -> w.who(d), (w, d) -> w.more(1, d), (w, d) -> w.which(d), (w, d) -> w.men(0, d), (w, d) -> w.beside(d),
            (w, d) -> w.law(3, d), (w, d) -> w.other(d)};
        for (Of call : calls) takes(1, 366, call);
        // from the state as it is: worn by 3, and on day 1
        MendingRoads x = of("road 0 1 5 1 30;going 0 1 127 3;new 0 1 6 0 30;");
        due(5, x.toll(0, 1, 0));
        due(5, x.law(9, 1));
        due(0, x.more(0, 1));
        due(0, x.men(0, 1));
        x.day(0);
        due(8, x.toll(0, 1, 0));
        due(8, x.law(9, 1));
        due(2, x.more(0, 1));
        due(3, x.men(0, 1));
        eachAsksForItself();
    }

    private static final Of[] ASKED = {(w, d) -> w.told(6), (w, d) -> w.road(0, 7), (w, d) -> w.going(1, 3), (w, d) -> w.way(1, 2), (w, d) -> w.by(1, 2, 1),
        (w, d) -> w.shuts(2), (w, d) -> w.shuts(3), (w, d) -> w.would(1, d, 0), (w, d) -> w.would(2, d, 3), (w, d) -> w.would(3, d, 1),
        (w, d) -> w.judge(0), (w, d) -> w.judge(3), (w, d) -> w.minutes(), (w, d) -> w.ever(1), (w, d) -> w.ever(3), (w, d) -> w.fewest(2, 9, 2),
        (w, d) -> w.lasts(2, 3, 9), (w, d) -> w.best(2, 0), (w, d) -> w.best(2, 1), (w, d) -> w.gap(2), (w, d) -> w.toll(3, d, 0),
        (w, d) -> w.toll(2, d, 1), (w, d) -> w.keep(d), (w, d) -> w.careless(0, d), (w, d) -> w.each(0, d), (w, d) -> w.hold(1, 3, d),
        (w, d) -> w.who(d), (w, d) -> w.more(1, d), (w, d) -> w.which(d), (w, d) -> w.men(0, d), (w, d) -> w.beside(d), (w, d) -> w.law(3, d),
        (w, d) -> w.other(d), (w, d) -> w.fits(14, 3), (w, d) -> w.seed(0, d, 5, 0), (w, d) -> w.seed(2, d, 7, 1), (w, d) -> w.seed(1, d, 9, 2),
        (w, d) -> w.fault(), (w, d) -> w.count(0)};

    /** What was asked before is nothing to it. */
    private static void eachAsksForItself() {
        for (int second = 0; second < ASKED.length; second++) {
            long alone = ASKED[second].answer(midst(), 20);
            for (int first = 0; first < ASKED.length; first++) {
                MendingRoads x = midst();
                ASKED[first].answer(x, 17);
                long got = ASKED[second].answer(x, 20);
                check(got == alone, "asked " + second + " behind " + first + " answered " + got + ", alone " + alone);
            }
        }
        // one who is held, and then goes as ever: he wears the road on day 0, not on day 1
        MendingRoads held = of("road 0 1 5 9 30;going 0 1 1 1;wait 0 1;going 0 1 2 1;");
        held.row(0);
        due(9, held.hold(0, 1, 2));
        due(9, held.each(0, 2));
        due(0, held.careless(0, 2));
        MendingRoads shut = of("road 0 1 5 9 30;road 0 1 6 0 30;going 0 1 1 1;wait 0 1;going 0 1 2 1;");
        shut.row(1);
        shut.row(0);
        shut.hold(0, 1, 2);
        due(1, shut.careless(0, 2));
    }

    private static void tolls() {
        says("TOLLS: each WEAR of a ROAD counts as t minutes more (0 to 20) in choosing WAYS alone; OPEN;");
        MendingRoads x = of("road 0 1 5 0 30;road 0 1 7 0 30;going 0 1 127 1;");
        x.row(1);
        // on the second day 5 and t, or 7: with 2 they are alike, and the first it is
        due(5 + 5, x.toll(0, 2, 0));
        due(5 + 5, x.toll(1, 2, 0));
        due(5 + 5, x.toll(2, 2, 0));
        due(5 + 7, x.toll(3, 2, 0));
        due(5 + 7, x.toll(20, 2, 0));
        due(5 + 7 + 5 + 7, x.toll(20, 4, 0));
        due(x.would(0, 40, 0), x.toll(0, 40, 0));
        // past use stays so: with wear 2 the first is none
        due(5 + 5 + 7, of("road 0 1 5 0 1;road 0 1 7 0 30;going 0 1 127 1;").toll(1, 3, 0));
        says("who goes pays t for each WEAR of each ROAD of the WAY: COST, all that is paid;");
        due(0, x.toll(20, 2, 1));
        due(20, x.toll(20, 3, 1));
        due(20 + 20, x.toll(20, 4, 1));
        due(0, x.toll(0, 366, 1));
        // two roads, worn by 3 on the first day, two who go: (3 and 3) times 20, twice
        MendingRoads two = of("road 0 1 5 0 30;road 1 2 5 0 30;going 0 2 127 2;going 2 0 127 1;");
        due(0, two.toll(20, 1, 1));
        due(240, two.toll(20, 2, 1));
        due(12, two.toll(1, 2, 1));
        due(40, two.toll(20, 2, 0));
        // who stays pays nothing, though there are worn roads
        MendingRoads stays = of("road 0 1 5 0 1;going 0 1 127 9;going 0 2 127 1;");
        due(5 + 1000 + 2000, stays.toll(20, 2, 0));
        due(0, stays.toll(20, 2, 1));
    }

    private static void bestToll() {
        says("BEST TOLL: of the least COST, of these the least.");
        // all alike
        due(0, new MendingRoads().keep(366));
        due(0, of("road 0 1 5 0 30;going 0 1 127 1;").keep(9));
        // 1 a wear makes one of weight 9 take the 7, and the two behind it have 6 each, not 7; more do no more
        MendingRoads one = of("road 0 1 7 0 30;road 0 1 5 1 30;going 0 1 1 1;going 0 1 2 9;going 0 1 4 1;going 0 1 4 1;");
        due(5 + 6 + 14, one.toll(0, 3, 0));
        for (int t = 1; t <= 20; t++) due(5 + 7 + 12, one.toll(t, 3, 0));
        due(1, one.keep(3));
        due(0, one.keep(2));
        // 1 costs two goings a minute each, from 2 on two others save as much: 0 is the least of those
        MendingRoads both = of("road 2 3 6 0 30;road 2 3 5 0 30;going 2 3 1 1;going 2 3 2 1;going 2 3 2 1;"
            + "road 0 1 8 0 30;road 0 1 5 1 30;going 0 1 1 1;going 0 1 2 9;going 0 1 4 1;going 0 1 4 1;");
        due(15 + 27, both.toll(0, 3, 0));
        due(17 + 27, both.toll(1, 3, 0));
        due(17 + 25, both.toll(2, 3, 0));
        due(0, both.keep(3));
        // only the most is enough: on the second day 5 and 1 and 20, or 25 minutes
        MendingRoads most = of("road 0 1 5 1 30;road 0 1 25 0 30;going 0 1 1 1;going 0 1 2 9;" + "going 0 1 4 1;".repeat(12));
        due(20, most.keep(3));
    }

    private static void careless() {
        says("CARELESS: one GOING takes no note of SHUT (RING): by how much more all others cost.");
        MendingRoads x = of("road 0 1 5 2 30;road 0 1 9 0 30;going 0 1 127 9;going 0 1 127 1;");
        x.row(1);
        x.row(0);
        // the other goes by 9, then by 5: but if the first is worn by 9, by 9 again
        due(0, x.careless(0, 1));
        due(4, x.careless(0, 2));
        // the ring begins anew with each asking
        x.day(1);
        due(0, x.careless(0, 1));
        due(4, x.careless(0, 2));
        // his own minutes do not count
        MendingRoads alone = of("road 0 1 5 0 30;going 0 1 127 1;");
        alone.row(1);
        due(0, alone.careless(0, 9));
        // below 0: he leaves the second road to the other, who has less wear there
        MendingRoads less = of("road 0 1 5 0 30;road 0 1 9 9 30;going 0 1 127 2;going 0 1 127 1;");
        less.row(1);
        due(9 + 18 - (9 + 36), less.careless(0, 2));
        due(9 + 27 - (9 + 36), less.careless(1, 2));
        // past use he keeps to: on the second day nobody goes along the first
        MendingRoads past = of("road 0 1 5 0 1;road 0 1 9 9 30;going 0 1 127 2;going 0 1 127 1;");
        past.row(1);
        due(9 + 18 + 45 - (9 + 36 + 63), past.careless(0, 3));
        // nothing is shut: nothing is otherwise
        MendingRoads open = of("road 0 1 5 2 30;going 0 1 127 9;going 0 1 127 1;");
        open.row(0);
        due(0, open.careless(0, 30));
        // one who stays for him costs 1,000
        MendingRoads stays = of("road 0 1 5 0 1;going 0 1 1 9;going 0 1 2 1;");
        stays.row(1);
        stays.row(0);
        due(1000 - 5, stays.careless(0, 2));
    }

    private static void alone() {
        says("ALONE: what all others would cost less (OPEN), if one GOING never went.");
        MendingRoads x = of("road 0 1 5 2 30;road 0 1 9 0 30;going 0 1 127 9;going 0 1 127 1;");
        x.row(3);
        due(0, x.each(0, 1));
        // the other has 5 and 9; alone 5 and 7; 5 and 7 and 9
        due(2, x.each(0, 2));
        due(2, x.each(0, 3));
        due(0, x.each(1, 2));
        // his own stays do not count
        due(0, of("going 0 1 127 1;").each(0, 366));
        due(0, of("going 0 1 127 1;going 0 1 127 1;").each(1, 366));
        // without him another would not stay
        MendingRoads past = of("road 0 1 5 0 1;going 0 1 1 9;going 0 1 2 1;");
        due(1000 - 5, past.each(0, 2));
        // below 0: he wears out what leads the other to a road that is better for all
        MendingRoads less = of("places 3;road 0 1 1 0 1;road 1 2 1 9 30;road 0 2 9 0 30;going 0 1 1 2;going 0 2 2 9;going 1 2 4 1;");
        due(9 + 1 - (2 + 82), less.each(0, 3));
    }

    private static void held() {
        says("HELD: one GOING goes h DAYS later each time (1 to its wait; from the first DAY on, none is left over from before; OPEN): "
            + "by how much the COST is less (may be below 0);");
        MendingRoads x = of("road 0 1 5 1 30;going 0 1 1 9;wait 0 6;going 0 1 2 1;going 0 1 2 1;");
        x.row(1);
        // 5 and 14 twice; a day later he goes with them: 5 three times; later still they have been before him
        due(33 - 15, x.hold(0, 1, 2));
        due(33 - 17, x.hold(0, 2, 3));
        due(33 - 17, x.hold(0, 6, 7));
        // behind the last day he is not counted
        due(33 - 10, x.hold(0, 2, 2));
        due(33 - 10, x.hold(0, 6, 6));
        due(5, x.hold(0, 1, 1));
        for (int h : new int[] {0, 7, -1, Integer.MIN_VALUE, Integer.MAX_VALUE}) refused(WRONG, () -> x.hold(0, h, 9));
        refused(WRONG, () -> x.hold(1, 1, 9));
        // none is left over from before: from day 1 on the one of day 0 does not come, that of day 7 does
        MendingRoads y = of("road 0 1 5 0 30;going 0 1 1 9;wait 0 6;");
        y.day(0);
        due(0, y.hold(0, 1, 6));
        due(0, y.hold(0, 6, 6));
        due(5, y.hold(0, 1, 7));
        due(0, y.hold(0, 1, 8));
        due(5, y.hold(0, 6, 12));
        due(0, y.hold(0, 6, 13));
        // each time, over the week's end: that of day 6 goes on day 7, where the other has been
        MendingRoads z = of("road 0 1 5 9 30;going 0 1 64 1;wait 0 1;going 0 1 1 1;law 3;");
        due(5 + 5 + 14 + 5 + 14 - (5 + 5 + 5 + 5 + 5), z.hold(0, 1, 15));
        // below 0
        MendingRoads more = of("road 0 1 5 1 30;going 0 1 1 9;wait 0 1;going 0 1 16 1;law 3;");
        due(5 + 5 - (5 + 14), more.hold(0, 1, 5));
        says("WHO: the GOING and h that save most, of these the first, if any does.");
        // it saves most to be put off behind the last day; where he comes in any case, a day
        for (int days = 1; days <= 6; days++) due(days, x.who(days));
        due(1, x.who(7));
        // alike: the first going, and its least h
        MendingRoads alike = of("going 0 1 1 1;wait 0 6;going 0 1 1 1;wait 1 6;");
        due(1, alike.who(1));
        due(6, alike.who(6));
        due(-1, alike.who(7));
        due(16, of("going 0 1 1 1;going 0 1 1 1;wait 1 6;").who(6));
        due(136, of("going 0 1 1 1;".repeat(14) + "wait 13 6;").who(6));
        due(-1, more.who(5));
        due(-1, of("going 0 1 1 1;").who(1));
        due(-1, new MendingRoads().who(366));
    }

    private static void newRoad() {
        says("NEW: with one ROAD that might be (behind all others; whole): by how much the COST (OPEN) is less;");
        // behind all others: of alike ways theirs, which is worn then
        MendingRoads x = of("road 0 1 5 9 30;new 0 1 5 0 30;going 0 1 127 1;");
        x.row(1);
        due(0, x.more(0, 1));
        due(9, x.more(0, 2));
        due(5 + 14 + 23 - 15, x.more(0, 3));
        // whole, whatever the days before were; wet days wear it from now on
        MendingRoads y = of("road 0 1 5 9 30;new 0 1 6 9 30;going 0 1 127 1;wet 0;wet 2;");
        y.run(0, 2);
        due(3, y.road(0, 5));
        due(32 - 6, y.more(0, 1));
        due(32 + 50 - 6 - 24, y.more(0, 2));
        // the eleventh road
        due(9 - 6, of("road 0 1 9 0 30;".repeat(10) + "new 0 1 6 0 30;going 0 1 1 1;").more(0, 1));
        due(1000 - 6, of("new 0 1 6 0 30;going 0 1 1 1;").more(0, 1));
        // the others stay as worn as they are, whichever they are
        MendingRoads worn = of("road 0 1 5 1 30;road 0 2 5 1 30;road 0 3 5 1 30;new 0 1 99 0 30;going 0 3 1 9;going 0 2 1 9;going 0 1 1 9;"
            + "going 0 1 2 1;going 0 2 2 1;going 0 3 2 1;");
        MendingRoads few = of("road 0 1 5 1 30;road 1 2 5 1 30;road 2 3 5 1 30;new 0 1 99 0 30;going 0 3 127 3;");
        MendingRoads two = of("road 0 1 5 1 30;road 1 2 5 1 30;road 2 3 5 1 30;new 0 1 99 0 30;new 0 1 99 0 30;going 0 3 127 2;going 3 0 127 1;");
        for (MendingRoads w : new MendingRoads[] {worn, few, two}) {
            w.day(0);
            due(0, w.more(0, 1));
        }
        // OPEN: what the row shuts is open
        MendingRoads open = of("road 0 1 5 0 30;new 0 1 7 0 30;going 0 1 127 1;");
        open.row(1);
        due(0, open.more(0, 3));
        // below 0: one of weight 9 goes by the new one, and wears what another needs
        MendingRoads less = of("road 1 2 1 9 30;road 0 2 9 0 30;new 0 1 1 0 1;going 0 2 1 9;going 1 2 2 1;");
        due(9 + 1 - (2 + 82), less.more(0, 2));
        says("WHICH: that by which it is least, of these the first.");
        MendingRoads w = of("road 0 1 9 0 30;new 0 1 8 0 30;new 0 1 7 0 30;new 0 1 7 0 30;new 0 1 6 0 1;going 0 1 127 1;");
        due(3, w.which(1));
        due(3, w.which(2));
        // past use behind two days: 6, 6, 9, 9, 9, 9; or 7 each day
        due(1, w.which(6));
        due(-1, of("road 0 1 9 0 30;going 0 1 127 1;").which(1));
        due(-1, new MendingRoads().which(1));
        due(0, of("new 2 3 1 0 1;new 2 3 1 0 1;going 0 1 1 1;").which(1));
        // all cost more: 2 and 82 by the first; 2, and then 10 by the new one and the long way, by the second and third
        MendingRoads worse = of("road 1 2 1 9 30;road 0 2 9 0 30;new 0 1 1 0 1;new 0 1 1 0 30;new 0 1 1 0 30;going 0 2 1 9;going 1 2 2 1;");
        due(9 + 1 - (2 + 82), worse.more(0, 2));
        due(9 + 1 - (2 + 10), worse.more(1, 2));
        due(1, worse.which(2));
        due(0, of("road 1 2 1 9 30;road 0 2 9 0 30;new 0 1 1 0 1;going 0 2 1 9;going 1 2 2 1;").which(2));
    }

    private static void men() {
        says("MEN: a ROAD is made whole (N RESTED DAYS) now: likewise;");
        MendingRoads x = of("road 0 1 5 2 30;road 0 1 30 1 30;going 0 1 127 3;");
        x.row(3);
        due(0, x.men(0, 1));
        x.run(0, 2);
        // 17 and 23; made whole 5 and 11; the other is 30 anyway
        due(17 - 5, x.men(0, 1));
        due(17 + 23 - 5 - 11, x.men(0, 2));
        due(0, x.men(1, 2));
        // past use it is open again
        MendingRoads past = of("road 0 1 5 0 2;going 0 1 127 3;");
        past.day(0);
        due(1000 - 5, past.men(0, 1));
        due(1000 - 5, past.men(0, 9));
        // nine days of rest, 5, one more; or 5, nine days of rest, 5
        due(9000 + 5 + 1000 - (5 + 9000 + 5), past.men(0, 11));
        // with five days of rest behind it, too
        MendingRoads rest = of("road 0 1 5 1 30;going 0 1 1 3;going 0 1 64 1;law 11;");
        rest.run(0, 6);
        due(3, rest.men(0, 1));
        // below 0: made whole it leads one of weight 9 over what a third needs
        MendingRoads less = of("places 3;road 0 1 1 0 1;road 1 2 1 9 30;road 0 2 9 0 30;going 0 1 1 2;going 0 2 2 9;going 1 2 4 1;");
        less.day(0);
        due(9 + 1 - (2 + 82), less.men(0, 2));
        says("BESIDE: the ROAD by which most is saved, of these the first, if any is.");
        MendingRoads y = of("road 0 1 5 1 30;road 2 3 5 1 30;going 0 1 127 3;going 2 3 127 4;");
        due(-1, y.beside(1));
        y.day(0);
        due(1, y.beside(1));
        MendingRoads alike = of("road 1 2 5 1 30;road 0 1 5 1 30;road 2 3 5 1 30;going 0 1 127 3;going 2 3 127 3;");
        alike.day(0);
        due(1, alike.beside(1));
        due(-1, less.beside(2));
        due(-1, new MendingRoads().beside(1));
        // the last of ten
        MendingRoads ten = of("road 0 1 9 0 30;".repeat(9) + "road 0 1 1 1 30;going 0 1 127 3;");
        ten.day(0);
        due(9, ten.beside(1));
    }

    private static void laws() {
        says("LAW n: with other DAYS of rest (3 to 11; RESTED DAYS above it are n, WEAR is 0 then): the COST (OPEN);");
        MendingRoads x = of("road 0 1 5 1 30;going 0 1 1 3;going 0 1 64 3;law 11;");
        x.row(1);
        x.run(0, 6);
        due(5, x.road(0, 6));
        // five days of rest: above 3 and 4, just 5, below 6
        for (int n = 3; n <= 11; n++) due(n <= 5 ? 5 : 8, x.law(n, 1));
        // they are n then: used today, it is worn tomorrow
        due(5 + 8, x.law(3, 2));
        due(8 + 11, x.law(6, 2));
        // and whole behind n days from then on, not behind N: used on days 6 and 7, left alone from 8 to 12
        due(5 + 8 + 5, x.law(5, 8));
        due(8 + 11 + 14, x.law(6, 8));
        // more days of rest than the land's: whole roads are whole, and longer in being so again
        MendingRoads y = of("road 0 1 5 1 30;going 0 1 17 3;law 3;");
        due(5 + 5, y.law(3, 5));
        due(5 + 8, y.law(4, 5));
        due(5 + 8, y.law(11, 5));
        due(y.would(0, 300, 0), y.law(3, 300));
        due(0, new MendingRoads().law(3, 366));
        // each of the roads, the last of ten too
        MendingRoads ten = of("road 2 3 1 0 1;".repeat(9) + "road 0 1 5 1 30;going 0 1 17 3;law 11;");
        ten.run(0, 4);
        due(5, ten.law(3, 1));
        due(8, ten.law(4, 1));
        // past use with so many days of rest as the law has: open on the first day
        MendingRoads past = of("road 0 1 5 0 2;going 0 1 17 3;law 11;");
        past.run(0, 4);
        due(5, past.law(3, 1));
        due(1000, past.law(4, 1));
        says("OTHER: the n of the least COST, of these the least.");
        due(3, new MendingRoads().other(366));
        due(3, x.other(1));
        // three days between uses: enough for 3, too few for 4
        due(3, y.other(5));
        // least with 4: on day 4 the first road is past use, and the second is whole behind it
        MendingRoads four = of("places 3;road 0 1 1 0 1;road 1 2 1 9 30;road 0 2 9 0 30;going 0 2 1 2;going 0 2 16 9;going 1 2 32 9;");
        due(2 + 2 + 82, four.law(3, 6));
        due(2 + 9 + 1, four.law(4, 6));
        for (int n = 5; n <= 11; n++) due(2 + 9 + 19, four.law(n, 6));
        due(4, four.other(6));
        // Least with 11: the first road is past use by day 0, and has ten days of rest behind it; if it is whole now,
        // one of weight 9 goes by it today and wears what another needs tomorrow.
        MendingRoads most = of("places 3;road 0 1 1 0 1;road 1 2 1 9 30;road 0 2 9 0 30;going 0 1 1 2;going 0 2 16 9;going 1 2 32 1;law 11;");
        most.day(0);
        for (int i = 0; i < 10; i++) most.day(7);
        due(10, most.road(0, 6));
        for (int n = 3; n <= 10; n++) due(2 + 82, most.law(n, 2));
        due(9 + 1, most.law(11, 2));
        due(11, most.other(2));
    }

    private static void known() {
        says("KNOWN: of a ROAD, whole at first, DAY by DAY, 20 at most: 0 nobody went, 1 somebody did, 2 not known "
            + "(digits to the base 3, the latest the lowest): RESTED DAYS that it may have, as bits.");
        for (int n = 3; n <= 11; n++) {
            MendingRoads x = of("law " + n + ";");
            due(1 << n, x.fits(0, 0));
            due(1 << n, x.fits(0, 20));
            due(1, x.fits(1, 1));
            due(1 << n | 1, x.fits(2, 1));
            // somebody, and then nobody for i days: i, to n
            long known = 1;
            for (int i = 0; i <= 19; i++) {
                due(1 << Math.min(n, i), x.fits(known, i + 1));
                known *= 3;
            }
            // nothing known: each number of days since, or whole
            long nothing = 0;
            for (int i = 1; i <= 20; i++) {
                nothing = 3 * nothing + 2;
                due(1 << n | (1 << Math.min(n, i)) - 1, x.fits(nothing, i));
            }
        }
        MendingRoads x = of("law 3;");
        // the latest the lowest: somebody, nobody; nobody, somebody
        due(2, x.fits(3, 2));
        due(1, x.fits(1, 2));
        // not known, nobody, nobody: whole, or two days; nobody behind that: whole in either case
        due(8 | 4, x.fits(18, 3));
        due(8, x.fits(54, 4));
        // somebody, not known, nobody: two days or one
        due(4 | 2, x.fits(9 + 6, 3));
        // as told of the land's own roads nothing counts
        MendingRoads worn = of("law 3;road 0 1 5 0 9;going 0 1 127 1;");
        worn.run(0, 5);
        due(8, worn.fits(0, 0));
        due(2, worn.fits(3, 2));
    }

    /** Draws of a land without roads, where whoever is drawn stays: how many. */
    private static int drawn(int seed, int days, int[] weekdays, int[] chances) {
        java.math.BigInteger s = java.math.BigInteger.valueOf(seed);
        int found = 0;
        for (int day = 0; day < days; day++) {
            for (int i = 0; i < chances.length; i++) {
                if ((weekdays[i] >> day % 7 & 1) == 0) continue;
                int draw = 0;
                if (chances[i] < 8) {
                    s = s.multiply(java.math.BigInteger.valueOf(1103515245)).add(java.math.BigInteger.valueOf(12345)).mod(java.math.BigInteger.ONE.shiftLeft(32));
                    draw = s.shiftRight(16).intValue() & 7;
                }
                if (draw < chances[i]) found++;
            }
        }
        return found;
    }

    private static void byLots() {
        says("BY LOTS: as by a RULE, but each GOING goes by a DRAW below 8 that is below C: the SEED (32 bits) becomes itself times "
            + "1,103,515,245, and 12,345 (it wraps); its bits 16 to 18 (DAY by DAY, of those of the day of the week, by number; C 8: no DRAW).");
        int[] weekdays = {127, 5, 42, 127, 64};
        int[] chances = {4, 8, 1, 7, 2};
        StringBuilder text = new StringBuilder();
        for (int i = 0; i < 5; i++) text.append("going 0 1 ").append(weekdays[i]).append(" 1;chance ").append(i).append(' ').append(chances[i]).append(';');
        for (int seed : new int[] {0, 1, -1, 77, 123456789, Integer.MIN_VALUE, Integer.MAX_VALUE}) {
            MendingRoads x = of(text.toString());
            for (int days : new int[] {1, 7, 366}) {
                int stay = drawn(seed, days, weekdays, chances);
                due(1000L * stay, x.seed(0, days, seed, 0));
                due(0, x.seed(0, days, seed, 1));
                due(stay, x.seed(0, days, seed, 2));
            }
        }
        // sure ones draw nothing: the draws of 0 are 0, 4, 4, and 4 is below 5, not below 4
        MendingRoads sure = of("going 0 1 1 1;going 0 1 1 1;chance 1 1;going 0 1 1 1;chance 2 5;going 0 1 1 1;chance 3 4;");
        due(3, sure.seed(0, 1, 0, 2));
        // all sure: as by the rule
        MendingRoads all = of("road 0 1 5 2 9;road 0 1 9 0 30;going 0 1 127 1;going 0 1 42 2;law 4;");
        all.row(1);
        for (int rule = 0; rule <= 3; rule++) due(all.would(rule, 50, 0), all.seed(rule, 50, 9, 0));
        // who is not drawn does not wear the road either: by draws 0 and then 4
        MendingRoads wear = of("road 0 1 5 9 30;going 0 1 3 1;chance 0 2;going 0 1 4 1;");
        due(5 + 14, wear.seed(0, 3, 0, 0));
        due(5 + 14 + 23, wear.would(0, 3, 0));
        // from the day as it is
        wear.day(0);
        due(14 + 23, wear.seed(0, 2, 0, 0));
        // by the ring
        MendingRoads ring = of("road 0 1 5 0 30;going 0 1 127 1;");
        ring.row(1);
        ring.row(0);
        due(1000 + 5 + 1000, ring.seed(1, 3, 0, 0));
        due(1, ring.seed(1, 3, 0, 1));
        due(2, ring.seed(1, 3, 0, 2));
    }

    // ---- promises 23 to 34 ----

    private static void tollAndKeep() {
        in("Promise 23");
        says("TOLLS: 0 the COST, 1 all that is paid.");
        takes(0, 20, (w, t) -> w.toll(t, 9, 0));
        takes(0, 20, (w, t) -> w.toll(t, 9, 1));
        takes(0, 1, (w, what) -> w.toll(1, 1, what));
        for (int days : NO_DAYS) refuses(WRONG, w -> w.toll(0, days, 1));
        MendingRoads x = of("road 0 1 5 0 30;going 0 1 127 2;");
        due(15, x.toll(20, 3, 0));
        due(0 + 40 + 80, x.toll(20, 3, 1));
        in("Promise 24");
        says("BEST TOLL.");
        for (int days : NO_DAYS) refuses(WRONG, w -> w.keep(days));
        MendingRoads y = midst();
        int best = 0;
        for (int t = 1; t <= 20; t++) if (y.toll(t, 30, 0) < y.toll(best, 30, 0)) best = t;
        due(best, y.keep(30));
    }

    private static void othersAndHeld() {
        in("Promise 25");
        says("CARELESS.");
        for (int days : NO_DAYS) refuses(WRONG, w -> w.careless(0, days));
        for (int going : NO_GOINGS) refuses(NO_GOING, Sentences::midstWithoutRow, w -> w.careless(going, 1));
        refuses(NO_ROW, Sentences::midstWithoutRow, w -> w.careless(2, 1));
        in("Promise 26");
        says("ALONE.");
        for (int days : NO_DAYS) refuses(WRONG, w -> w.each(0, days));
        due(0, of("going 0 1 127 1;".repeat(14)).each(13, 366));
        in("Promise 27");
        says("HELD. IllegalArgumentException: also h.");
        takes(1, 3, (w, h) -> w.hold(1, h, 9));
        takes(1, 6, (w, h) -> w.hold(2, h, 9));
        for (int h : new int[] {-1, 0, 1, 6}) refuses(WRONG, w -> w.hold(0, h, 9));
        for (int days : NO_DAYS) refuses(WRONG, w -> w.hold(1, 1, days));
        refuses(NO_GOING, w -> w.hold(3, 7, 0));
        in("Promise 28");
        says("WHO: 10 times the GOING, and h; NONE.");
        for (int days : NO_DAYS) refuses(WRONG, w -> w.who(days));
        for (int going = 0; going < 14; going++) {
            for (int h = 1; h <= 6; h++) {
                // held behind the last day it costs nothing: the least h that is enough
                MendingRoads x = of("going 0 1 1 1;".repeat(14) + "wait " + going + " 6;");
                due(10 * going + h, x.who(h));
            }
        }
        due(-1, of("going 0 1 1 1;".repeat(14) + "wait 13 6;").who(7));
    }

    private static void moreAndMen() {
        in("Promise 29");
        says("NEW. IllegalArgumentException: no such new one.");
        takes(0, 1, (w, road) -> w.more(road, 9));
        for (int days : NO_DAYS) refuses(WRONG, w -> w.more(0, days));
        MendingRoads none = of("road 0 1 5 0 9;");
        for (int road : new int[] {-1, 0, 1}) refused(WRONG, () -> none.more(road, 1));
        MendingRoads four = of("new 0 1 4 0 9;new 0 1 3 0 9;new 0 1 2 0 9;new 0 1 1 0 9;going 0 1 1 1;");
        for (int road = 0; road < 4; road++) due(1000 - (4 - road), four.more(road, 1));
        refused(WRONG, () -> four.more(4, 1));
        in("Promise 30");
        says("WHICH; NONE: there are none.");
        for (int days : NO_DAYS) refuses(WRONG, w -> w.which(days));
        due(3, four.which(366));
        due(-1, none.which(1));
        refused(WRONG, () -> none.which(0));
        in("Promise 31");
        says("MEN.");
        for (int days : NO_DAYS) refuses(WRONG, w -> w.men(0, days));
        for (int road : NO_ROADS) refuses(NO_ROAD, w -> w.men(road, 367));
        refused(NO_ROAD, () -> of("new 0 1 5 0 9;").men(0, 1));
        in("Promise 32");
        says("BESIDE; NONE.");
        for (int days : NO_DAYS) refuses(WRONG, w -> w.beside(days));
        due(-1, none.beside(366));
        MendingRoads x = of("road 0 1 5 1 9;going 0 1 127 1;");
        due(-1, x.beside(366));
        x.day(0);
        due(0, x.beside(1));
    }

    private static void lawAndOther() {
        in("Promise 33");
        says("LAW.");
        takes(3, 11, (w, n) -> w.law(n, 9));
        for (int days : NO_DAYS) refuses(WRONG, w -> w.law(3, days));
        in("Promise 34");
        says("OTHER.");
        for (int days : NO_DAYS) refuses(WRONG, w -> w.other(days));
        MendingRoads x = midst();
        int best = 3;
        for (int n = 4; n <= 11; n++) if (x.law(n, 40) < x.law(best, 40)) best = n;
        due(best, x.other(40));
    }

    // ---- promises 35 to 39 ----

    private static void fitsAndSeed() {
        in("Promise 35");
        says("KNOWN. IllegalArgumentException: days (0 to 20), digits that are none such.");
        takes(0, 20, (w, days) -> w.fits(0, days));
        long power = 1;
        for (int d = 0; d <= 20; d++) {
            int days = d;
            long above = power;
            keeps(w -> w.fits(above - 1, days));
            refuses(WRONG, w -> w.fits(above, days));
            power *= 3;
        }
        for (long known : new long[] {-1, Long.MIN_VALUE, Long.MAX_VALUE, 1L << 32, 3486784401L}) {
            refuses(WRONG, w -> w.fits(known, 20));
        }
        refuses(WRONG, w -> w.fits(1L << 32, 1));
        in("Promise 36");
        says("BY LOTS: 0 the COST, 1 how many went, 2 how many STAY (nothing stays changed).");
        takes(0, 3, (w, rule) -> w.seed(rule, 9, 1, 0));
        takes(1, 366, (w, days) -> w.seed(0, days, 1, 0));
        takes(0, 2, (w, what) -> w.seed(3, 9, 1, what));
        for (int seed : new int[] {Integer.MIN_VALUE, -1, 0, Integer.MAX_VALUE}) keeps(w -> w.seed(2, 366, seed, 1));
        refuses(NO_ROW, Sentences::midstWithoutRow, w -> w.seed(1, 1, 1, 0));
        MendingRoads x = of("road 0 1 5 0 30;going 0 1 127 1;going 0 2 127 1;");
        due(2 * 1005, x.seed(0, 2, 3, 0));
        due(2, x.seed(0, 2, 3, 1));
        due(2, x.seed(0, 2, 3, 2));
        for (int what = 0; what < 3; what++) due(0, new MendingRoads().seed(0, 366, 3, what));
    }

    private static void images() {
        in("Promise 37");
        says("An IMAGE of the DAY, ROADS, the ROW: how many there are; -1: there are 3.");
        MendingRoads x = of("road 0 1 5 0 30;road 0 1 9 0 30;going 0 1 127 1;law 3;");
        for (int i = 1; i <= 3; i++) {
            due(i, x.image());
            due(i, x.count(1));
            x.day(0);
            x.row(1);
        }
        due(-1, x.image());
        due(-1, x.image());
        due(3, x.count(1));
        due(3, x.told(6));
        due(3, x.road(0, 5));
        due(3, x.count(0));
        in("Promise 38");
        says("All is as in the latest IMAGE, which is gone: how many are left; -1: there is none.");
        for (int left = 2; left >= 0; left--) {
            due(left, x.on());
            due(left, x.count(1));
            due(left, x.told(6));
            due(left, x.road(0, 5));
            due(left == 0 ? 3 : 0, x.road(0, 6));
            due(3, x.road(1, 6));
            due(left, x.count(0));
            due(9 * left, x.minutes());
        }
        x.day(0);
        due(-1, x.on());
        due(1, x.told(6));
        // what was put in order later does not reach into an image
        MendingRoads y = of("road 0 1 5 0 30;road 0 1 9 0 30;going 0 1 127 1;");
        y.row(1);
        y.image();
        y.image();
        y.clear();
        y.row(2);
        y.row(2);
        y.run(0, 9);
        due(1, y.on());
        due(9, y.minutes());
        y.clear();
        y.row(2);
        y.run(0, 9);
        due(0, y.on());
        due(0, y.told(6));
        due(1, y.count(0));
        due(9, y.minutes());
        due(0, y.road(0, 5));
        // the tape and the fault are as they were ahead of it; the land and its text stay
        MendingRoads z = midst();
        due(0, z.on());
        due(20, z.count(2));
        due(6, z.fault());
        due(4, z.told(1));
        // a land without a fault has no images, one with a fault leaves them
        MendingRoads w = of("road 0 1 5 0 30;");
        w.image();
        tell(w, "x");
        due(1, w.count(1));
        tell(w, "");
        due(0, w.count(1));
        due(-1, w.on());
        in("Promise 39");
        says("0 DAYS of the ROW, 1 IMAGES, 2 bytes of the TAPE; NONE for others.");
        MendingRoads full = new MendingRoads();
        for (int i = 0; i < 3; i++) due(0, full.count(i));
        for (int i = 0; i < 40; i++) {
            full.row(0);
            full.image();
            full.feed(0, 0, 0, 0, 0);
        }
        due(30, full.count(0));
        due(3, full.count(1));
        due(600, full.count(2));
        for (int what : new int[] {-1, 3, Integer.MIN_VALUE, Integer.MAX_VALUE}) {
            due(-1, full.count(what));
            keeps(v -> v.count(what));
        }
    }
}
