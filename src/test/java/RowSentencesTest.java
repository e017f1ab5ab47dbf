/** The sentences of ==== 3 and of the promises 14 to 22: the row, judged and for ever; alike roads; the least cost. */
final class RowSentencesTest extends Sentences {
    /** Two roads side by side, each good for three days, whole behind three. */
    private static final String TURNS = "road 0 1 5 0 3;road 0 1 9 0 3;going 0 1 127 1;law 3;";
    /** Found by a search with the program: from day 249 on the round is closed by the 4,000th day, a day before it is not. */
    private static final String LATE = "places 5;law 10;road 1 3 23 2 22;road 1 2 28 3 14;road 0 4 4 0 14;road 0 2 30 1 15;road 4 1 17 1 5;"
        + "road 2 3 16 3 17;road 3 4 6 1 24;road 1 4 19 2 5;road 3 1 23 2 28;road 1 0 11 3 23;going 2 3 67 2;going 3 0 41 2;"
        + "going 1 2 42 3;going 1 3 8 1;going 2 1 83 2;going 1 4 46 1;going 1 3 107 5;";

    public static void main(String[] args) {
        in("==== 3");
        row();
        judged();
        forEver();
        itGoesRound();
        fewestRoads();
        lastsSoLong();
        leastCost();
        rowAndClear();
        judgeAndMinutes();
        ever();
        fewestAndLasts();
        bestAndGap();
        endAll("==== 3", "Promise 14", "Promise 15", "Promise 16", "Promise 17", "Promise 18", "Promise 19", "Promise 20", "Promise 21",
            "Promise 22");
    }

    private static void rows(MendingRoads x, int... shut) {
        x.clear();
        for (int s : shut) x.row(s);
    }

    private static void verdict(MendingRoads x, int pastDay, int road, int stayDay, int going) {
        int[] due = {pastDay, road, stayDay, going};
        for (int what = 0; what < 4; what++) due(due[what], x.judge(what));
    }

    // ---- ==== 3 ----

    private static void row() {
        says("ROW: SHUT ROADS DAY by DAY, 30 at most.");
        MendingRoads x = of(TURNS);
        for (int i = 1; i <= 30; i++) due(i, x.row(i % 4));
        due(-1, x.row(0));
        due(30, x.count(0));
        // day by day, each its own roads: all shut on every fourth day
        rows(x, 2, 1, 3, 0);
        due(5, x.would(1, 1, 0));
        due(5 + 9, x.would(1, 2, 0));
        due(5 + 9 + 1000, x.would(1, 3, 0));
        due(5 + 9 + 1000 + 5, x.minutes());
    }

    private static void judged() {
        says("JUDGED from the state as it is: the first DAY (of the ROW) at whose end a ROAD is past use, and which (of these the first);");
        String pair = "law 3;road 0 1 5 0 1;road 2 3 5 0 1;going 0 1 1 2;going 2 3 1 2;";
        MendingRoads x = of(pair);
        rows(x, 0);
        // both on one day: the first of them
        verdict(x, 0, 0, -1, -1);
        rows(x, 1);
        verdict(x, 0, 1, 0, 0);
        rows(x, 3, 0);
        verdict(x, -1, -1, 0, 0);
        // of an earlier day the second, of a later one the first: the earlier day
        MendingRoads later = of("road 0 1 5 0 1;road 2 3 5 0 1;going 0 1 2 2;going 2 3 1 2;");
        rows(later, 0, 0);
        verdict(later, 0, 1, -1, -1);
        // from the state as it is: past use now, and still at the end of the row's first day
        x.clear();
        x.run(0, 2);
        due(1, x.road(0, 6));
        rows(x, 0);
        verdict(x, 0, 0, -1, -1);
        // whole at the end of it
        x.day(0);
        due(-1, x.road(0, 7));
        verdict(x, -1, -1, -1, -1);
        // the 30th day of the row, by M 29; with M 30 none
        for (int m = 28; m <= 30; m++) {
            MendingRoads y = of("road 0 1 5 0 " + m + ";going 0 1 127 1;");
            for (int i = 0; i < 30; i++) y.row(0);
            int past = m == 30 ? -1 : m;
            int stays = m == 28 ? 29 : -1;
            verdict(y, past, past < 0 ? -1 : 0, stays, stays < 0 ? -1 : 0);
        }
        says("the first on which a GOING STAYS, and who.");
        MendingRoads z = of("road 0 1 5 0 30;road 2 3 5 0 30;going 2 3 4 1;going 0 1 2 1;going 2 3 2 1;going 0 1 127 1;");
        rows(z, 2, 3, 1);
        // day 0 none; day 1 goings 1, 2 and 3: the first of them; day 2 the last
        verdict(z, -1, -1, 1, 1);
        z.day(0);
        // a day on: now going 1 goes by day 0 of the row, and 3 by day 1
        rows(z, 0, 2);
        verdict(z, -1, -1, 1, 0);
        rows(z, 0, 0);
        verdict(z, -1, -1, -1, -1);
        z.clear();
        verdict(z, -1, -1, -1, -1);
    }

    private static void round(MendingRoads x, int well, int begins, int length, int firstBad) {
        int[] due = {well, begins, length, firstBad};
        for (int what = 0; what < 4; what++) due(due[what], x.ever(what));
    }

    private static void forEver() {
        says("FOR EVER: the ROW as a RING, from the state as it is (no wet DAYS, 4,000 DAYS at most):");
        // three days each by turns last, though wet days would end them
        MendingRoads x = of(TURNS + "wet 0;wet 1;wet 2;wet 3;wet 4;wet 5;wet 6;wet 7;");
        rows(x, 2, 2, 2, 1, 1, 1);
        round(x, 1, 3, 42, -1);
        due(1, x.judge(0));
        // from the state as it is: worn by one of the three
        MendingRoads y = of(TURNS);
        y.day(0);
        rows(y, 2, 2, 2, 1, 1, 1);
        round(y, 0, 6, 42, 2);
        // and from the day of the week: the going of day 0 stays on the first day, or on the sixth
        MendingRoads z = of("going 0 1 1 1;");
        z.row(0);
        round(z, 0, 0, 7, 0);
        z.day(0);
        round(z, 0, 0, 7, 6);
        // a day more than 4,000: none is found
        MendingRoads late = of(LATE);
        late.row(0);
        late.run(0, 248);
        due(0, late.ever(0));
        due(-1, late.ever(1));
        due(-1, late.ever(2));
        late.day(0);
        due(3538, late.ever(1));
        due(462, late.ever(2));
        due(4000, late.ever(1) + late.ever(2));
    }

    private static void itGoesRound() {
        says("it goes ROUND, if all ROADS are as they were (WEAR, RESTED DAYS), at the same place of the ROW and of the week:");
        // nothing changes: the row and the week alone
        int[] lengths = {1, 2, 3, 6, 7, 8, 14, 21, 28, 29, 30};
        int[] rounds = {7, 14, 21, 42, 7, 56, 14, 21, 28, 203, 210};
        for (int i = 0; i < lengths.length; i++) {
            MendingRoads x = new MendingRoads();
            for (int k = 0; k < lengths[i]; k++) x.row(0);
            round(x, 1, 0, rounds[i], -1);
        }
        // the same wear, but not the same rest: worn by a wet day, whole behind eleven days, not alike a week on
        MendingRoads rest = of("road 0 1 5 0 30;wet 0;law 11;");
        rest.day(0);
        rest.row(0);
        round(rest, 1, 11, 7, -1);
        rest.run(0, 10);
        round(rest, 1, 1, 7, -1);
        rest.day(0);
        round(rest, 1, 0, 7, -1);
        // no roads: a wet day leaves nothing that must mend
        for (String land : new String[] {"wet 0;", "wet 0;new 0 1 5 0 9;"}) {
            MendingRoads bare = of(land);
            bare.day(0);
            bare.row(0);
            round(bare, 1, 0, 7, -1);
        }
        // the same rest, but not the same wear: 31 days of use and 9 of rest, 40 and the week's 7
        for (int road = 0; road < 10; road++) {
            MendingRoads wear = of("road 0 1 9 0 9;".repeat(road) + "road 2 3 5 0 30;" + "road 0 1 9 0 9;".repeat(9 - road) + "going 2 3 127 1;");
            wear.row(0);
            round(wear, 0, 0, 280, 30);
        }
        roundsByTheirDays();
        roundsApartByOneWear();
        says("after how many DAYS for the first time, how long the ROUND is, whether ever a ROAD is past use, or a GOING STAYS.");
        // one a week, mended in between: the round begins at once
        MendingRoads x = of("road 0 1 5 0 9;going 0 1 1 1;law 3;");
        x.row(0);
        round(x, 1, 0, 7, -1);
        // with law 6 it is whole again on the eve of the next, with law 7 it is not
        MendingRoads y = of("road 0 1 5 0 2;going 0 1 1 1;law 6;");
        y.row(0);
        round(y, 1, 0, 7, -1);
        MendingRoads z = of("road 0 1 5 0 2;going 0 1 1 1;law 7;");
        z.row(0);
        // worn by 1 on days 0, 7 and 14; past use, it is left alone on day 21: whole then
        round(z, 0, 0, 28, 14);
        // past use, and nobody stays: there is another road
        MendingRoads w = of("road 0 1 5 0 2;road 0 1 6 0 30;going 0 1 1 1;law 7;");
        w.row(0);
        due(0, w.ever(0));
        due(14, w.ever(3));
        // one stays, and none is past use
        MendingRoads v = of("road 0 1 5 0 9;going 0 1 1 1;law 3;");
        rows(v, 0, 1);
        round(v, 0, 0, 14, 7);
    }

    /** Lands that wear by much at once, found by a search: the round is the one that is seen by going there day by day. */
    private static void roundsByTheirDays() {
        String[] lands = {
            "law 7;road 0 1 2 2 1;road 0 1 8 0 25;" + "going 0 1 16 8;".repeat(4) + "going 0 1 123 9;going 0 1 16 6;going 0 1 16 4;",
            "law 11;road 0 1 9 2 16;road 0 1 3 0 28;" + "going 0 1 2 8;".repeat(5) + "going 0 1 87 7;going 0 1 2 3;going 0 1 2 9;",
            "law 10;road 0 1 7 2 4;road 0 1 5 2 24;" + "going 0 1 2 8;".repeat(3) + "going 0 1 2 9;going 0 1 2 7;going 0 1 127 8;",
            "law 4;road 0 1 6 1 20;road 0 1 8 0 11;going 0 1 126 8;going 0 1 41 8;going 0 1 40 7;going 0 1 99 8;" + "going 0 1 32 9;".repeat(3)};
        int[][] rows = {{0}, {0}, {0}, {0, 2, 0}};
        for (int i = 0; i < lands.length; i++) {
            MendingRoads x = of(lands[i]);
            rows(x, rows[i]);
            int[] due = roundSeen(lands[i], rows[i]);
            due(due[0], x.ever(1));
            due(due[1], x.ever(2));
        }
    }

    /** Each number of days from a new object on, till one is as another was, at the same place of the row and of the week. */
    private static int[] roundSeen(String land, int[] row) {
        java.util.List<String> seen = new java.util.ArrayList<>();
        for (int days = 0; days <= 366; days++) {
            MendingRoads x = of(land);
            rows(x, row);
            if (days > 0) x.run(1, days);
            String state = days % row.length + " " + x.told(6) % 7;
            for (int r = 0; r < x.told(1); r++) state += " " + x.road(r, 5) + " " + x.road(r, 6);
            if (seen.contains(state)) return new int[] {seen.indexOf(state), days - seen.indexOf(state)};
            seen.add(state);
        }
        throw new IllegalStateException("no round in a year");
    }

    /**
     * A week on all roads are as they were but for the first, of WEAR 1, not 33: in the first week road 2 was worn so
     * that the way from 0 to 1 went by the roads 1 and 0, in the next it goes by 2 and 3.
     */
    private static void roundsApartByOneWear() {
        String land = "places 6;law 3;road 2 1 15 0 30;road 0 2 15 0 30;road 0 3 1 9 30;road 3 1 10 0 30;road 4 5 1 0 1;road 4 5 1 0 1;"
            + "going 0 1 64 2;going 2 1 64 1;going 0 2 64 1;going 0 3 64 1;going 3 1 64 1;"
            + "going 0 2 16 2;going 0 3 16 1;going 2 1 32 9;going 2 1 32 9;going 2 1 32 9;going 2 1 32 3;going 0 3 32 2;going 3 1 32 2;";
        MendingRoads x = of(land);
        int[] firstWeek = {63, 63, 63, 63, 59, 2, 0};
        for (int shut : firstWeek) x.day(shut);
        for (int r = 0; r < 4; r++) due(0, x.road(r, 6));
        due(33, x.road(0, 5));
        due(3, x.road(1, 5));
        due(4, x.road(2, 5));
        due(3, x.road(3, 5));
        rows(x, 63, 63, 63, 63, 0, 63, 0);
        // all whole behind three days: there it begins, not at once
        round(x, 0, 3, 7, 0);
        x.run(1, 7);
        for (int r = 0; r < 4; r++) due(0, x.road(r, 6));
        due(1, x.road(0, 5));
        due(3, x.road(1, 5));
        due(4, x.road(2, 5));
        due(3, x.road(3, 5));
        // road 0 is not past use any more; on the sixth day all are shut, and some stay
        round(x, 0, 0, 7, 5);
    }

    private static void fewestRoads() {
        says("ALIKE ROADS between two PLACES, past use above M, so much weight a DAY (all by one of them), N DAYS of rest: "
            + "FEWEST: as many as, used one after the other each as many DAYS as it can be, last for ever;");
        MendingRoads x = new MendingRoads();
        // just M is not above it
        int[][] due = {{1, 1, 10, 1, 10}, {1, 2, 6, 2, 12}, {2, 3, 10, 1, 10}, {1, 8, 3, 8, 24}, {1, 9, 2, 9, 18}, {1, 10, 2, 10, 20},
            {99, 99, 10, 1, 10}, {1, 99, 2, 99, 198}, {50, 99, 10, 1, 10}, {49, 99, 6, 2, 12}, {33, 99, 4, 3, 12}, {3, 8, 6, 2, 12}, {3, 9, 4, 3, 12}};
        for (int[] d : due) for (int what = 0; what < 3; what++) due(d[2 + what], x.fewest(d[0], d[1], what));
        for (int what = 0; what < 3; what++) {
            due(-1, x.fewest(2, 1, what));
            due(-1, x.fewest(99, 98, what));
            due(-1, x.fewest(99, 1, what));
        }
        // by N of the land
        for (int n = 3; n <= 11; n++) {
            MendingRoads y = of("law " + n + ";");
            due(n + 1, y.fewest(5, 5, 0));
            due(2, y.fewest(1, n, 0));
            due(3, y.fewest(1, n - 1, 0));
        }
    }

    private static void lastsSoLong() {
        says("with fewer: LASTS: how many DAYS at most, if each DAY any one is taken that would not be past use behind it (all whole at first).");
        MendingRoads x = new MendingRoads();
        // 8 days each are 16, since the other is not whole behind 8; 9 days each are for ever
        due(16, x.lasts(2, 1, 8));
        due(-1, x.lasts(2, 1, 9));
        due(9, x.lasts(1, 1, 9));
        due(12, x.lasts(3, 1, 4));
        due(-1, x.lasts(3, 1, 5));
        due(8, x.lasts(4, 1, 2));
        due(-1, x.lasts(4, 1, 3));
        // just M is not past use; one less is a day less
        due(2, x.lasts(1, 4, 8));
        due(1, x.lasts(1, 4, 7));
        due(0, x.lasts(1, 4, 3));
        due(0, x.lasts(4, 99, 98));
        due(4, x.lasts(4, 99, 99));
        // as many as FEWEST says last for ever, one fewer do not
        for (int n = 3; n <= 11; n++) {
            MendingRoads y = of("law " + n + ";");
            for (int m = 1; m <= 9; m++) {
                int fewest = y.fewest(1, m, 0);
                for (int k = 1; k <= 4; k++) due(k >= fewest ? -1 : k * m, y.lasts(k, 1, m));
            }
        }
    }

    /** A way of two parts, each by a road that wears much or by one a minute longer; one of weight 9 first, then two. */
    private static final String PARTS = "road 0 1 5 9 30;road 1 2 5 9 30;road 0 1 6 0 30;road 1 2 6 0 30;going 0 2 1 9;going 0 2 2 1;going 0 2 2 1;";

    private static void leastCost() {
        says("LEAST COST over d DAYS (1 to 3; 6 ROADS at most): over all SHUT sets DAY by DAY; the first such (DAY by DAY, least bits).");
        MendingRoads x = of(PARTS);
        due(10, x.best(1, 0));
        due(0, x.best(1, 1));
        // both parts left for the two: 12 and 20, not 10 and 24
        due(32, x.best(2, 0));
        due(3, x.best(2, 1));
        due(32, x.best(3, 0));
        // two sets more that cost as much: with a road that nobody needs
        MendingRoads y = of("road 2 3 1 0 30;" + PARTS.replace("going 0 2 1 9;", "road 2 3 1 0 30;going 0 2 1 9;"));
        due(6, y.told(1));
        due(32, y.best(2, 0));
        due(6, y.best(2, 1));
        // what is kept on the second day for the third
        MendingRoads z = of("road 0 1 5 9 30;road 0 1 6 0 30;going 0 1 2 9;going 0 1 4 1;going 0 1 4 1;");
        due(6 + 10, z.best(3, 0));
        due(0, z.best(3, 1));
        z.day(0);
        due(1, z.best(2, 1));
        due(5, z.best(1, 0));
        // to stay may cost least: 1,107 by the way, 1,000 without
        MendingRoads far = of("road 0 1 99 9 30;road 1 2 99 9 30;road 2 3 99 9 30;going 0 3 7 9;wet 0;wet 1;wet 2;going 0 3 8 1;");
        far.run(0, 3);
        due(1107, far.way(1, 0));
        due(1000, far.best(1, 0));
        due(1, far.best(1, 1));
        due(1000, far.best(3, 0));
        // just 1,000 by the way: none is shut
        MendingRoads even = of("road 0 1 10 9 30;road 1 2 90 9 30;road 2 3 90 9 30;going 0 3 7 9;wet 0;wet 1;wet 2;going 0 3 8 1;");
        even.run(0, 3);
        due(1000, even.way(1, 0));
        due(1000, even.best(1, 0));
        due(0, even.best(1, 1));
        says("GAP: by how much more OPEN costs.");
        due(0, x.gap(1));
        due(34 - 32, x.gap(2));
        due(34 - 32, x.gap(3));
        due(107, far.gap(1));
        due(0, even.gap(1));
        due(0, new MendingRoads().gap(3));
    }

    // ---- promises 14 to 22 ----

    private static void rowAndClear() {
        in("Promise 14");
        says("A DAY comes to the ROW: how many there are; -1: there are 30.");
        MendingRoads x = of(TURNS);
        for (int i = 1; i <= 30; i++) due(i, x.row(2));
        long before = x.minutes();
        due(-1, x.row(3));
        due(-1, x.row(3));
        due(30, x.count(0));
        due(before, x.minutes());
        due(0, x.told(6));
        refused(WRONG, () -> x.row(4));
        in("Promise 15");
        says("The ROW goes: how many DAYS.");
        due(30, x.clear());
        due(0, x.count(0));
        due(0, x.clear());
        due(0, x.minutes());
        due(1, x.row(3));
        due(1000, x.minutes());
        due(1, x.clear());
        // days, images and the tape stay
        MendingRoads y = midst();
        due(2, y.clear());
        due(3, y.told(6));
        due(1, y.count(1));
        due(20, y.count(2));
        due(0, y.on());
        due(1, y.count(0));
    }

    private static void judgeAndMinutes() {
        in("Promise 16");
        says("JUDGED: 0 the first DAY with a ROAD past use, 1 the ROAD, 2 the first on which one STAYS, 3 who; NONE each.");
        MendingRoads x = of("places 3;road 0 1 5 0 9;road 1 2 5 0 1;going 0 1 127 1;going 1 2 127 1;");
        verdict(x, -1, -1, -1, -1);
        rows(x, 0);
        verdict(x, -1, -1, -1, -1);
        rows(x, 0, 0);
        verdict(x, 1, 1, -1, -1);
        rows(x, 0, 0, 0);
        verdict(x, 1, 1, 2, 1);
        rows(x, 1, 0, 0);
        verdict(x, 1, 1, 0, 0);
        for (int what = 0; what < 4; what++) {
            int asked = what;
            keeps(w -> w.judge(asked));
            due(-1, midstWithoutRow().judge(what));
        }
        in("Promise 17");
        says("The COST of the ROW.");
        keeps(MendingRoads::minutes);
        due(0, midstWithoutRow().minutes());
        due(midst().would(1, 2, 0), midst().minutes());
        // as far as it goes, once; wet days count
        MendingRoads y = of("road 0 1 5 3 9;going 0 1 127 1;wet 0;");
        rows(y, 0, 0, 1);
        due(5 + 11 + 1000, y.minutes());
        MendingRoads full = of("going 0 1 127 1;".repeat(14));
        for (int i = 0; i < 30; i++) full.row(0);
        due(14 * 30 * 1000, full.minutes());
    }

    private static void ever() {
        in("Promise 18");
        says("FOR EVER: 0 whether it goes round, with none past use and nobody who STAYS (1, 0), 1 DAYS till the ROUND begins, "
            + "2 how long it is (NONE, NONE: not in 4,000 DAYS),");
        for (int what = 0; what < 4; what++) {
            int asked = what;
            keeps(w -> w.ever(asked));
        }
        MendingRoads x = of(TURNS);
        rows(x, 2, 2, 2, 1, 1, 1);
        round(x, 1, 3, 42, -1);
        rows(x, 2, 2, 2, 2, 1, 1, 1);
        // four days by the first are too many: at the end of the fourth
        due(0, x.ever(0));
        due(3, x.ever(3));
        MendingRoads late = of(LATE);
        late.row(0);
        due(0, late.ever(0));
        due(-1, late.ever(1));
        due(-1, late.ever(2));
        says("3 the first DAY (from 0 on, from now) with a ROAD past use at its end, or one who STAYS "
            + "(NONE; asked till the ROUND is closed, or for 4,000 DAYS).");
        // from now: day 3 is day 0
        MendingRoads y = of(TURNS);
        y.run(0, 3);
        rows(y, 2);
        due(0, y.ever(3));
        rows(y, 1);
        due(3, y.ever(3));
        // one stays on the last day of the round; and only behind its beginning
        MendingRoads z = of("going 0 1 64 1;");
        z.row(0);
        round(z, 0, 0, 7, 6);
        MendingRoads w = of("road 0 1 5 0 9;wet 0;going 2 3 64 1;law 3;");
        w.day(0);
        w.row(0);
        round(w, 0, 3, 7, 5);
        // past use now, at the end of the first day no more
        MendingRoads v = of("road 0 1 5 0 1;wet 0;wet 1;law 3;");
        v.row(0);
        v.run(0, 3);
        due(0, v.ever(3));
        v.day(0);
        due(-1, v.road(0, 7));
        round(v, 1, 1, 7, -1);
        // not closed in 4,000 days, and yet asked
        due(0, late.ever(0));
        check(late.ever(3) >= 0, "that land wears out");
        due(late.ever(3), firstBad(of(LATE)));
    }

    /** By going through the days of an open land that has no wet ones. */
    private static int firstBad(MendingRoads x) {
        for (int day = 0; day < 100; day++) {
            if (x.would(0, 1, 1) > 0 || x.would(0, 1, 2) > 0) return day;
            x.day(0);
        }
        return -1;
    }

    private static void fewestAndLasts() {
        in("Promise 19");
        says("FEWEST by weight (1 to 99) and M (1 to 99): 0 how many, 1 DAYS that each is used, 2 the whole round; NONE: none do.");
        takes(1, 99, (w, weight) -> w.fewest(weight, 1, 0));
        takes(1, 99, (w, m) -> w.fewest(1, m, 0));
        for (int weight = 1; weight <= 99; weight++) {
            MendingRoads x = new MendingRoads();
            due(10, x.fewest(weight, weight, 0));
            due(1, x.fewest(weight, weight, 1));
            due(10, x.fewest(weight, weight, 2));
            if (weight > 1) for (int what = 0; what < 3; what++) due(-1, x.fewest(weight, weight - 1, what));
        }
        in("Promise 20");
        says("LASTS with k ROADS (1 to 4), weight (1 to 99), M (1 to 9 times the weight): NONE: for ever.");
        takes(1, 4, (w, k) -> w.lasts(k, 1, 1));
        takes(1, 99, (w, weight) -> w.lasts(1, weight, 1));
        for (int weight : new int[] {1, 2, 50, 99}) {
            takes(1, 9 * weight, (w, m) -> w.lasts(1, weight, m));
            due(9, new MendingRoads().lasts(1, weight, 9 * weight));
            due(8, new MendingRoads().lasts(1, weight, 9 * weight - 1));
            due(-1, new MendingRoads().lasts(2, weight, 9 * weight));
            due(16, new MendingRoads().lasts(2, weight, 9 * weight - 1));
        }
        // with no weight nothing is between 1 and none
        for (int m : new int[] {-1, 0, 1}) refuses(WRONG, w -> w.lasts(1, 0, m));
        refuses(WRONG, w -> w.lasts(1, -1, 1));
        refuses(WRONG, w -> w.lasts(1, 1 << 29, 1));
    }

    private static void bestAndGap() {
        in("Promise 21");
        says("LEAST COST: 0 it, 1 the first DAY's SHUT set;");
        MendingRoads x = of(PARTS);
        due(32, x.best(2, 0));
        due(3, x.best(2, 1));
        keeps(w -> w.best(3, 0));
        keeps(w -> w.best(2, 1));
        due(0, new MendingRoads().best(3, 0));
        due(0, new MendingRoads().best(3, 1));
        due(3 * 14000, of("going 0 1 127 1;".repeat(14)).best(3, 0));
        says("-2: there are more than 6 ROADS.");
        MendingRoads six = of("road 0 1 2 0 1;".repeat(6) + "going 0 1 127 1;");
        due(6, six.best(3, 0));
        due(0, six.best(3, 1));
        due(0, six.gap(3));
        for (int roads : new int[] {7, 10}) {
            MendingRoads y = of("road 0 1 2 0 1;".repeat(roads) + "going 0 1 127 1;");
            for (int d = 1; d <= 3; d++) {
                due(-2, y.best(d, 0));
                due(-2, y.best(d, 1));
                due(-2, y.gap(d));
            }
            refused(WRONG, () -> y.best(0, 0));
            refused(WRONG, () -> y.best(4, 0));
            refused(WRONG, () -> y.best(1, 2));
            refused(WRONG, () -> y.gap(0));
            refused(WRONG, () -> y.gap(4));
        }
        // a road that might be is not one of the six
        due(2, of("road 0 1 2 0 1;".repeat(6) + "new 0 1 1 0 1;going 0 1 127 1;").best(1, 0));
        says("IllegalArgumentException: d, what.");
        takes(1, 3, (w, d) -> w.best(d, 0));
        takes(0, 1, (w, what) -> w.best(1, what));
        in("Promise 22");
        says("GAP; -2.");
        takes(1, 3, (w, d) -> w.gap(d));
        MendingRoads z = midst();
        for (int d = 1; d <= 3; d++) due(z.would(0, d, 0) - z.best(d, 0), z.gap(d));
        due(-2, of("road 0 1 2 0 1;".repeat(7)).gap(1));
    }
}
