/** The sentences of ==== 2 and of the promises 8 to 13: wear and rest, days, ways, costs, rules. */
final class DaySentencesTest extends Sentences {
    /** Two roads side by side, the first the shorter one. */
    private static final String SIDE = "road 0 1 5 0 30;road 0 1 9 0 30;going 0 1 127 1;";

    public static void main(String[] args) {
        in("==== 2");
        wearAndRest();
        daysAndBits();
        theLeastWay();
        theFirstOfAlikeWays();
        whoStays();
        endOfDay();
        cost();
        openAndRing();
        worst();
        rested();
        wayAndBy();
        shutsAndDay();
        runAndWould();
        endAll("==== 2", "Promise 8", "Promise 9", "Promise 10", "Promise 11", "Promise 12", "Promise 13");
    }

    private static void state(int wear, int rested, MendingRoads x, int road) {
        check(x.road(road, 5) == wear && x.road(road, 6) == rested,
            "road " + road + " has " + x.road(road, 5) + " and " + x.road(road, 6) + ", due are " + wear + " and " + rested);
    }

    private static void wearAndRest() {
        says("A ROAD has WEAR (0 to 99; 0 at first) and RESTED DAYS (N at first).");
        for (int n = 3; n <= 11; n++) state(0, n, of("law " + n + ";road 0 1 1 0 1;"), 0);
        state(0, 9, of("road 0 1 1 0 1;"), 0);
        // 98, 99, and no more by more wet days
        MendingRoads x = of("law 5;road 0 1 1 0 30;" + "going 0 1 1 7;".repeat(14) + "wet 1;wet 2;wet 3;");
        x.day(0);
        state(98, 0, x, 0);
        for (int day = 1; day <= 3; day++) {
            x.day(0);
            state(99, 0, x, 0);
        }
        x.run(0, 4);
        state(99, 4, x, 0);
        x.day(0);
        state(0, 5, x, 0);
        // just 99 in a day, and what would be 126
        for (int goings : new int[] {11, 14}) {
            MendingRoads y = of("road 0 1 1 0 30;" + "going 0 1 1 9;".repeat(goings));
            y.day(0);
            due(99, y.road(0, 5));
        }
    }

    private static void daysAndBits() {
        says("A DAY (numbered from 0 on; the 0th day of the week first): some ROADS are SHUT (bits).");
        MendingRoads x = of("road 0 1 5 0 30;going 0 1 1 1;");
        for (int day = 0; day < 22; day++) {
            due(day, x.told(6));
            due(day % 7 == 0 ? 5 : 0, x.day(0));
        }
        // far behind the last wet day too: day 1,099 is day 0 of the week
        MendingRoads far = of("road 0 1 5 0 30;going 0 1 1 1;");
        for (int days : new int[] {366, 366, 366}) far.run(0, days);
        due(0, far.day(0));
        due(5, far.day(0));
        due(1100, far.told(6));
        // ten roads side by side, of 1 to 10 minutes: all but one shut, all, none
        StringBuilder ten = new StringBuilder();
        for (int minutes = 1; minutes <= 10; minutes++) ten.append("road 0 1 ").append(minutes).append(" 0 30;");
        MendingRoads y = of(ten + "going 0 1 127 1;");
        for (int road = 0; road < 10; road++) {
            due(road, y.by(0, 1023 ^ 1 << road, 0));
            due(road + 1, y.day(1023 ^ 1 << road));
        }
        due(1000, y.day(1023));
        due(1, y.day(0));
        refused(WRONG, () -> y.day(1024));
    }

    private static void theLeastWay() {
        says("Each GOING whose day of the week it is goes, by number, by the WAY of the least minutes over ROADS that are not SHUT, "
            + "nor past use (WEAR as it is at the beginning of the DAY);");
        // 4 and 4 are less than 9, but not than 8 by the first road
        due(8, of("road 0 1 9 0 9;road 0 2 4 0 9;road 2 1 4 0 9;going 0 1 1 1;").day(0));
        due(1, of("road 0 1 9 0 9;road 0 2 4 0 9;road 2 1 4 0 9;going 0 1 1 1;").by(0, 0, 0));
        due(0, of("road 0 1 8 0 9;road 0 2 4 0 9;road 2 1 4 0 9;going 0 1 1 1;").by(0, 0, 0));
        // the wear of the beginning counts for all of the day: neither longer nor past use till its end
        MendingRoads x = of("road 0 1 5 9 9;going 0 1 127 1;going 0 1 127 1;");
        due(5 + 5, x.day(0));
        due(23 + 23, x.day(0));
        MendingRoads y = of("road 0 1 5 0 1;going 0 1 127 1;going 0 1 127 1;going 0 1 127 1;");
        due(15, y.day(0));
        due(3000, y.day(0));
        // with just M it is gone along, with one more it is not
        MendingRoads z = of("road 0 1 5 0 2;road 0 1 9 0 30;going 0 1 127 1;");
        due(5 + 5 + 5 + 9, z.run(0, 4));
        // so long that to stay would cost less: it goes all the same
        MendingRoads chain = of(chain() + "going 0 10 7 9;going 0 10 8 1;wet 0;wet 1;wet 2;");
        chain.run(0, 3);
        due(30, chain.road(0, 5));
        due(10 * (99 + 270), chain.way(1, 0));
        due(3690, chain.day(0));
        due(31, chain.road(9, 5));
    }

    /** Eleven places in a row: the longest way that there can be. */
    private static String chain() {
        StringBuilder s = new StringBuilder("places 11;");
        for (int i = 0; i < 10; i++) s.append("road ").append(i).append(' ').append(i + 1).append(" 99 9 30;");
        return s.toString();
    }

    private static void ways(MendingRoads x, int... roads) {
        for (int i = 0; i < roads.length; i++) due(roads[i], x.by(0, 0, i));
        due(-1, x.by(0, 0, roads.length));
    }

    private static void theFirstOfAlikeWays() {
        says("of these the first (ROAD by ROAD, by numbers).");
        ways(of("road 0 1 5 0 9;road 0 1 5 0 9;going 1 0 1 1;"), 0);
        // the first road decides, then the second; how many there are does not
        ways(of("road 0 1 5 0 9;road 1 3 5 0 9;road 0 3 10 0 9;going 0 3 1 1;"), 0, 1);
        ways(of("road 0 3 10 0 9;road 0 1 5 0 9;road 1 3 5 0 9;going 0 3 1 1;"), 0);
        ways(of("road 2 3 5 0 9;road 0 1 5 0 9;road 0 2 5 0 9;road 1 3 5 0 9;going 0 3 1 1;"), 1, 3);
        ways(of("road 0 1 5 0 9;road 2 3 4 0 9;road 1 3 9 0 9;road 1 2 5 0 9;going 0 3 1 1;"), 0, 2);
        ways(of("road 0 1 5 0 9;road 2 3 4 0 9;road 1 2 5 0 9;road 1 3 9 0 9;going 0 3 1 1;"), 0, 2, 1);
        // from its own end: the way there and the way back may be unlike
        ways(of("road 2 3 5 0 9;road 0 1 5 0 9;road 0 2 5 0 9;road 1 3 5 0 9;going 3 0 1 1;"), 0, 2);
        // alike by wear: 5 and 4 for wear, or 9
        MendingRoads x = of("road 0 1 9 0 9;road 0 1 5 4 9;going 0 1 127 1;");
        x.day(0);
        due(0, x.by(0, 0, 0));
        MendingRoads y = of("road 0 1 5 4 9;road 0 1 9 0 9;going 0 1 127 1;");
        y.day(0);
        due(0, y.by(0, 0, 0));
        y.day(0);
        due(1, y.by(0, 0, 0));
        // as long as can be, both ways
        MendingRoads chain = of(chain() + "going 0 10 1 1;going 10 0 1 1;");
        due(990, chain.way(0, 0));
        for (int i = 0; i < 10; i++) {
            due(i, chain.by(0, 0, i));
            due(9 - i, chain.by(1, 0, i));
        }
        due(-1, chain.by(0, 0, 10));
    }

    private static void whoStays() {
        says("There may be none: it STAYS.");
        due(1000, of("going 0 1 1 1;").day(0));
        due(1000, of("road 0 1 5 0 9;going 0 1 1 1;").day(1));
        due(1000, of("road 0 1 5 0 9;going 0 2 1 1;").day(0));
        due(0, of("road 0 1 5 0 9;going 0 2 2 1;").day(0));
        // who stays wears nothing, not even the part of a way that there is
        MendingRoads x = of("road 0 1 5 0 9;going 0 2 127 9;law 3;");
        x.run(0, 3);
        state(0, 3, x, 0);
        due(3, x.would(0, 3, 1));
        // others go on the same day
        due(1000 + 5, of("road 0 1 5 0 9;going 0 2 1 1;going 1 0 1 1;").day(0));
    }

    private static void endOfDay() {
        says("At the end of the DAY: a ROAD over which some went gets their weights as WEAR;");
        MendingRoads x = of("road 0 1 5 0 30;road 1 2 5 0 30;road 2 3 5 0 30;going 0 2 1 2;going 2 1 1 3;going 0 1 2 9;");
        x.day(0);
        state(2, 0, x, 0);
        state(5, 0, x, 1);
        state(0, 9, x, 2);
        x.day(0);
        state(11, 0, x, 0);
        state(5, 1, x, 1);
        says("all, if it is a wet DAY, 1 more;");
        // used, left alone, shut, past use
        MendingRoads y = of("road 0 1 5 0 30;road 1 2 5 0 30;road 0 1 4 0 30;road 2 3 5 0 1;going 0 1 2 2;going 2 3 1 9;wet 1;");
        y.day(0);
        state(9, 0, y, 3);
        y.day(4);
        state(3, 0, y, 0);
        state(1, 0, y, 1);
        state(1, 0, y, 2);
        state(10, 0, y, 3);
        says("if it got none, it has one RESTED DAY more, to N: with N WEAR is 0; else RESTED DAYS are 0.");
        MendingRoads z = of("road 0 1 5 0 9;going 0 1 1 4;wet 11;law 3;");
        int[][] due = {{4, 0}, {4, 1}, {4, 2}, {0, 3}, {0, 3}, {0, 3}, {0, 3}, {4, 0}, {4, 1}, {4, 2}, {0, 3}, {1, 0}, {1, 1}, {1, 2}, {4, 0}};
        for (int day = 0; day < 14; day++) {
            z.day(0);
            state(due[day][0], due[day][1], z, 0);
        }
        // on day 14 the rest is broken by one who goes, with two of three days: none of them counts
        z.day(0);
        state(5, 0, z, 0);
        // and by a wet day
        MendingRoads wet = of("road 0 1 5 0 9;going 0 1 1 4;wet 3;law 3;");
        wet.run(0, 3);
        state(4, 2, wet, 0);
        wet.day(0);
        state(5, 0, wet, 0);
        wet.run(0, 2);
        state(5, 2, wet, 0);
        wet.day(0);
        state(0, 3, wet, 0);
        // on the very day on which it would be whole
        MendingRoads last = of("road 0 1 5 0 9;going 0 1 9 4;law 3;");
        last.run(0, 3);
        state(4, 2, last, 0);
        last.day(0);
        state(8, 0, last, 0);
    }

    private static void cost() {
        says("COST: minutes of all together, and 1,000 for each that STAYS.");
        MendingRoads x = of("road 0 1 5 0 9;road 2 3 7 0 9;going 0 1 1 9;going 3 2 1 1;going 0 2 1 9;going 1 3 1 1;going 1 0 1 2;");
        due(5 + 7 + 1000 + 1000 + 5, x.day(0));
        due(0, x.day(0));
        due(14000, of("going 0 1 1 9;".repeat(14)).day(0));
        due(14L * 366 * 1000, of("going 0 1 127 9;".repeat(14)).run(0, 366));
    }

    private static void openAndRing() {
        says("RULES: 0 OPEN: none is SHUT.");
        MendingRoads x = of(SIDE);
        x.row(1);
        due(30 * 5, x.run(0, 30));
        due(0, x.shuts(0));
        due(30, x.road(0, 5));
        says("1 RING: the ROW, round and round (its first on the first DAY that is asked).");
        MendingRoads y = of(SIDE);
        y.day(0);
        y.row(1);
        y.row(2);
        y.row(0);
        due(9, y.would(1, 1, 0));
        due(9 + 5, y.would(1, 2, 0));
        due(9 + 5 + 5, y.would(1, 3, 0));
        due(9 + 5 + 5 + 9, y.would(1, 4, 0));
        due(9 + 5 + 5 + 9 + 5 + 5 + 9, y.run(1, 7));
        due(9, y.run(1, 1));
        due(9, y.would(1, 1, 0));
        // thirty days, and the first of them again
        MendingRoads z = of(SIDE);
        for (int day = 0; day < 29; day++) z.row(2);
        z.row(1);
        due(29 * 5, z.would(1, 29, 0));
        due(29 * 5 + 9, z.would(1, 30, 0));
        due(29 * 5 + 9 + 5, z.would(1, 31, 0));
    }

    /** Side by side, the first of a given M, worn by 1 each day. */
    private static void worstFrom(int m, int least) {
        MendingRoads x = of("road 0 1 5 0 " + m + ";road 0 1 9 0 30;going 0 1 127 1;");
        for (int wear = 0; wear < least; wear++) {
            due(0, x.shuts(2));
            x.day(0);
        }
        due(least, x.road(0, 5));
        due(1, x.shuts(2));
    }

    private static void worst() {
        says("2 WORST: of ROADS with WEAR above half of their own M that of the most WEAR, of these the first, is SHUT, "
            + "if by all others all GOINGS of the DAY have a WAY.");
        worstFrom(1, 1);
        worstFrom(2, 2);
        worstFrom(3, 2);
        worstFrom(4, 3);
        worstFrom(5, 3);
        worstFrom(29, 15);
        worstFrom(30, 16);
        // of its own M: 9 is not above half of 30, 3 is above half of 4
        String two = "going 0 1 1 9;going 2 3 1 3;";
        MendingRoads own = of("road 0 1 5 0 30;road 2 3 5 0 4;" + two);
        own.day(0);
        due(2, own.shuts(2));
        // of the most wear, though the other is worn more for its M
        MendingRoads most = of("road 0 1 5 0 10;road 2 3 5 0 1;" + two);
        most.day(0);
        due(1, most.shuts(2));
        MendingRoads second = of("road 2 3 5 0 1;road 0 1 5 0 10;" + two);
        second.day(0);
        due(2, second.shuts(2));
        // alike: the first
        MendingRoads alike = of("road 2 3 5 0 4;road 0 1 5 0 5;going 0 1 1 3;going 2 3 1 3;");
        alike.day(0);
        due(1, alike.shuts(2));
        // the worst is the only way of one of the day's goings: none is shut, not the second worst either
        MendingRoads only = of("road 0 1 5 0 9;road 2 3 5 0 9;road 2 3 5 0 9;going 0 1 3 9;going 2 3 1 8;");
        only.day(0);
        due(0, only.shuts(2));
        only.day(0);
        // on day 2 nobody goes
        due(1, only.shuts(2));
        // the others are past use: they are no way
        MendingRoads past = of("road 0 1 5 0 30;road 0 1 9 0 1;going 0 1 127 9;");
        past.day(1);
        // the worst is past use itself, and the other is open
        due(2, past.shuts(2));
        past.run(0, 2);
        state(18, 0, past, 0);
        state(9, 2, past, 1);
        due(0, past.shuts(2));
        // somebody has no way at all
        MendingRoads nobody = of("road 0 1 5 0 1;road 0 1 5 0 9;going 0 1 127 1;going 0 2 126 1;");
        nobody.day(0);
        due(0, nobody.shuts(2));
        // a way by a road that is told from the far end, to place 0
        MendingRoads back = of("road 1 0 5 0 4;road 1 0 9 0 30;going 0 1 127 3;");
        back.day(0);
        due(1, back.shuts(2));
        // each day for itself: on day 0 the first is open, on day 2 it would be shut, and no other leads there
        MendingRoads anew = of("road 1 0 5 0 9;road 2 3 5 0 4;going 2 3 1 3;going 0 1 126 5;");
        anew.day(0);
        due(2, anew.shuts(2));
        anew.day(0);
        due(5, anew.road(0, 5));
        due(0, anew.shuts(2));
        // roads of a land before, and such as might be, are no way
        MendingRoads former = new MendingRoads();
        for (int i = 0; i < 3; i++) tell(former, "road 0 1 5 0 4;".repeat(9));
        for (int i = 0; i < 2; i++) {
            tell(former, "road 0 1 5 0 4;going 0 1 127 3;");
            former.day(0);
            due(0, former.shuts(2));
        }
        MendingRoads might = of("road 0 1 5 0 4;" + "road 2 3 5 0 4;".repeat(9) + "new 0 1 5 0 4;going 0 1 127 3;");
        might.day(0);
        due(0, might.shuts(2));
        // no roads, no wear
        due(0, new MendingRoads().shuts(2));
        due(0, of(SIDE).shuts(2));
    }

    private static void rested() {
        says("3 RESTED: each ROAD with WEAR and one RESTED DAY or more is SHUT, by number, as long as all GOINGS of the DAY have a WAY "
            + "by what is left open.");
        MendingRoads x = of(SIDE + "law 3;");
        // whole roads are not shut, nor such as were used on the day before
        due(0, x.shuts(3));
        x.day(0);
        due(0, x.shuts(3));
        x.day(1);
        state(1, 1, x, 0);
        due(1, x.shuts(3));
        x.day(1);
        state(1, 2, x, 0);
        due(1, x.shuts(3));
        x.day(1);
        // whole again
        state(0, 3, x, 0);
        due(0, x.shuts(3));
        // each of them, where nobody goes
        MendingRoads all = of("road 0 1 5 0 30;road 1 2 5 0 30;road 2 3 5 0 30;going 0 3 1 1;");
        all.day(0);
        due(0, all.shuts(3));
        all.day(0);
        due(7, all.shuts(3));
        // by number: with the first shut the second must be open, and the third need not
        MendingRoads three = of("road 0 1 5 0 30;road 0 1 5 0 30;road 2 3 5 0 30;going 0 1 1 1;going 0 1 2 1;going 2 3 1 1;going 0 1 8 1;");
        three.day(2);
        three.day(1);
        three.day(0);
        state(1, 2, three, 0);
        state(1, 1, three, 1);
        due(5, three.shuts(3));
        // past use, and left alone for a day: shut as others are
        MendingRoads past = of("road 0 1 5 0 1;road 0 1 9 0 30;going 0 1 127 9;");
        past.day(0);
        due(0, past.shuts(3));
        past.day(0);
        due(1, past.shuts(3));
        // somebody has no way by what is open already: none is shut
        MendingRoads nobody = of("road 0 1 5 0 30;road 2 3 5 0 30;going 2 3 1 1;going 0 2 4 1;");
        nobody.day(0);
        nobody.day(0);
        due(0, nobody.shuts(3));
        nobody.day(0);
        due(2, nobody.shuts(3));
        due(0, new MendingRoads().shuts(3));
    }

    // ---- promises 8 to 13 ----

    private static void wayAndBy() {
        in("Promise 8");
        says("The minutes of the WAY a GOING would take now, if some ROADS are SHUT; NONE.");
        MendingRoads x = of("road 0 1 5 2 2;road 0 1 9 0 30;going 0 1 1 1;going 1 0 2 1;");
        due(5, x.way(0, 0));
        due(9, x.way(0, 1));
        due(5, x.way(0, 2));
        due(-1, x.way(0, 3));
        // whatever day of the week it is
        due(5, x.way(1, 0));
        x.run(0, 2);
        due(9, x.way(0, 0));
        due(9, x.way(0, 2));
        due(-1, of("going 0 1 1 1;").way(0, 0));
        says("IllegalArgumentException: bits of no ROADS (so below).");
        takes(0, 15, (w, shut) -> w.way(0, shut));
        takes(0, 15, (w, shut) -> w.by(0, shut, 0));
        for (int shut : new int[] {-1, 16, 31, 1 << 30, Integer.MIN_VALUE, Integer.MAX_VALUE}) {
            refuses(WRONG, w -> w.day(shut));
            refuses(WRONG, w -> w.row(shut));
        }
        due(3, midst().row(15));
        due(2000, midst().day(15));
        // no roads, no bits
        MendingRoads none = of("going 0 1 1 1;");
        refused(WRONG, () -> none.way(0, 1));
        refused(WRONG, () -> none.by(0, 1, 0));
        refused(WRONG, () -> none.day(1));
        refused(WRONG, () -> none.row(1));
        due(1, none.row(0));
        // a road that might be is none
        MendingRoads might = of("new 0 1 1 0 1;going 0 1 1 1;");
        refused(WRONG, () -> might.day(1));
        due(-1, might.way(0, 0));
        in("Promise 9");
        says("The i-th ROAD of it; NONE: none such.");
        MendingRoads y = of("road 0 1 5 0 9;road 1 2 5 0 9;road 0 2 30 0 9;going 0 2 1 1;");
        int[] is = {Integer.MIN_VALUE, -1, 0, 1, 2, Integer.MAX_VALUE};
        int[] roads = {-1, -1, 0, 1, -1, -1};
        int[] direct = {-1, -1, 2, -1, -1, -1};
        for (int i = 0; i < is.length; i++) {
            due(roads[i], y.by(0, 0, is[i]));
            due(direct[i], y.by(0, 1, is[i]));
            due(-1, y.by(0, 5, is[i]));
        }
    }

    private static void shutsAndDay() {
        in("Promise 10");
        says("What a RULE (0, 2, 3) would shut now.");
        for (int rule : new int[] {0, 2, 3}) keeps(w -> w.shuts(rule));
        MendingRoads x = midst();
        due(0, x.shuts(0));
        for (int rule = 2; rule <= 3; rule++) {
            MendingRoads twin = midst();
            due(midst().run(rule, 1), twin.day(x.shuts(rule)));
        }
        // now, not at the end of what was asked before, nor on another day
        MendingRoads now = of("road 0 1 5 0 4;road 0 1 9 0 30;going 0 1 127 1;law 3;");
        now.run(0, 3);
        due(1, now.shuts(2));
        now.would(2, 9, 0);
        due(1, now.shuts(2));
        now.image();
        now.day(1);
        due(1, now.shuts(3));
        now.would(0, 9, 0);
        due(1, now.shuts(3));
        now.on();
        due(0, now.shuts(3));
        tell(now, "road 0 1 5 0 4;");
        due(0, now.shuts(2));
        says("IllegalArgumentException: another RULE.");
        for (int rule : new int[] {1, -1, 4, Integer.MIN_VALUE, Integer.MAX_VALUE}) refuses(WRONG, w -> w.shuts(rule));
        in("Promise 11");
        says("A DAY goes by with some ROADS SHUT: its COST.");
        MendingRoads y = of(SIDE + "going 2 3 2 1;");
        y.row(3);
        due(5, y.day(2));
        due(1, y.told(6));
        due(9 + 1000, y.day(1));
        due(2, y.told(6));
        due(1000, y.day(3));
        state(1, 2, y, 0);
        state(1, 1, y, 1);
        due(1, y.count(0));
        due(0, new MendingRoads().day(0));
    }

    /** The same days, one by one, by what the rule would shut. */
    private static void runIsDays(int rule, int days) {
        MendingRoads run = midst();
        MendingRoads steps = midst();
        long cost = 0;
        for (int i = 0; i < days; i++) cost += steps.day(rule == 1 ? 1 + i % 2 : steps.shuts(rule));
        due(cost, midst().would(rule, days, 0));
        due(cost, run.run(rule, days));
        due(3 + days, run.told(6));
        check(all(run).equals(all(steps)), "run by rule " + rule + " is not the same as its days");
    }

    private static void runAndWould() {
        in("Promise 12");
        says("So many DAYS (1 to 366) go by by a RULE (0 to 3): their COST.");
        for (int rule = 0; rule <= 3; rule++) {
            for (int days : new int[] {1, 2, 25}) runIsDays(rule, days);
            int by = rule;
            for (int days : new int[] {0, -1, 367, Integer.MIN_VALUE, Integer.MAX_VALUE}) {
                refuses(WRONG, w -> w.run(by, days));
                refuses(WRONG, w -> w.would(by, days, 0));
            }
            MendingRoads year = midst();
            long before = year.would(rule, 366, 0);
            due(before, year.run(rule, 366));
            due(369, year.told(6));
        }
        for (int rule : new int[] {-1, 4, Integer.MIN_VALUE, Integer.MAX_VALUE}) {
            refuses(WRONG, w -> w.run(rule, 1));
            refuses(WRONG, w -> w.would(rule, 1, 0));
        }
        due(366 * 1000, of("going 0 1 127 1;").run(0, 366));
        due(0, new MendingRoads().run(3, 366));
        says("IllegalStateException: a RING without a ROW (so of all that ask for one).");
        refuses(NO_ROW, Sentences::midstWithoutRow, w -> w.run(1, 1));
        refuses(NO_ROW, Sentences::midstWithoutRow, w -> w.would(1, 1, 0));
        refuses(NO_ROW, Sentences::midstWithoutRow, w -> w.ever(0));
        refuses(NO_ROW, Sentences::midstWithoutRow, w -> w.careless(0, 1));
        refuses(NO_ROW, Sentences::midstWithoutRow, w -> w.seed(1, 1, 1, 0));
        MendingRoads x = midstWithoutRow();
        x.row(0);
        for (String got : new String[] {answer(() -> x.ever(0)), answer(() -> x.careless(0, 1)), answer(() -> x.seed(1, 1, 1, 0)), answer(() -> x.run(1, 1))}) {
            check(got.startsWith("answer"), got);
        }
        in("Promise 13");
        says("Would go by: 0 the COST, 1 how many STAY, 2 how many ROADS are past use then, 3 the most WEAR then.");
        for (int rule = 0; rule <= 3; rule++) {
            int by = rule;
            keeps(w -> w.would(by, 1, 0));
            keeps(w -> w.would(by, 366, 3));
        }
        MendingRoads y = of("road 0 1 5 0 2;road 0 1 9 0 1;going 0 1 127 1;");
        // 5, 5, 5; 9, 9; then nobody, till the first is whole again at the end of day 11
        int[] costs = {5, 10, 15, 24, 33, 1033};
        int[] past = {0, 0, 1, 1, 2, 2};
        int[] most = {1, 2, 3, 3, 3, 3};
        for (int days = 1; days <= 6; days++) {
            due(costs[days - 1], y.would(0, days, 0));
            due(days == 6 ? 1 : 0, y.would(0, days, 1));
            due(past[days - 1], y.would(0, days, 2));
            due(most[days - 1], y.would(0, days, 3));
        }
        due(2, y.would(0, 11, 2));
        due(1, y.would(0, 12, 2));
        due(2, y.would(0, 12, 3));
        due(14 * 366, of("going 0 1 127 1;".repeat(14)).would(0, 366, 1));
        for (int what = 0; what < 4; what++) due(0, new MendingRoads().would(0, 366, what));
    }
}
