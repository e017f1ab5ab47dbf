/**
 * Each promise: ordinary inputs, the edges that the document names, wrong inputs. The answers are reckoned by hand,
 * but for two lands found by a search with the program (marked so), whose answers Oracle gives too.
 */
final class PromiseTest extends Checks {
    private static void fault(int kind, int place, String text) {
        MendingRoads x = new MendingRoads();
        due(kind == 0 ? x.told(1) : kind - 10, tell(x, text));
        due(place, x.fault());
    }

    public static void main(String[] args) {
        Runnable[] all = {PromiseTest::newObject, PromiseTest::feed, PromiseTest::land, PromiseTest::fault, PromiseTest::told,
            PromiseTest::road, PromiseTest::going, PromiseTest::way, PromiseTest::by, PromiseTest::shuts, PromiseTest::day,
            PromiseTest::run, PromiseTest::would, PromiseTest::row, PromiseTest::clear, PromiseTest::judge, PromiseTest::minutes,
            PromiseTest::ever, PromiseTest::fewest, PromiseTest::lasts, PromiseTest::best, PromiseTest::gap, PromiseTest::toll,
            PromiseTest::keep, PromiseTest::careless, PromiseTest::each, PromiseTest::hold, PromiseTest::who, PromiseTest::more,
            PromiseTest::which, PromiseTest::men, PromiseTest::beside, PromiseTest::law, PromiseTest::other, PromiseTest::fits,
            PromiseTest::seed, PromiseTest::image, PromiseTest::on, PromiseTest::count};
        int promise = 0;
        for (Runnable test : all) {
            promise++;
            where = "promise " + promise;
            int before = passed + failed;
            test.run();
            check(passed + failed > before, "no test");
        }
        check(promise == 39, "there are 39 promises");
        end();
    }

    // ---- the land ----

    private static void newObject() {
        MendingRoads x = new MendingRoads();
        int[] told = {4, 0, 0, 0, 0, 9, 0};
        for (int i = 0; i < told.length; i++) due(told[i], x.told(i));
        due(-1, x.fault());
        for (int i = 0; i < 3; i++) due(0, x.count(i));
        due(0, x.clear());
        due(-1, x.on());
        due(0, x.day(0));
        due(1, x.told(6));
        due(0, x.would(2, 366, 3));
        due(0, x.minutes());
        refused(NO_ROAD, () -> x.road(0, 0));
        refused(NO_GOING, () -> x.going(0, 0));
        refused(WRONG, () -> x.day(1));
    }

    private static void feed() {
        MendingRoads x = new MendingRoads();
        for (int i = 1; i <= 30; i++) due(20 * i, x.feed(0x20202020, 0x20202020, 0x20202020, 0x20202020, 0x20202020));
        due(-1, x.feed(0, 0, 0, 0, 0));
        due(600, x.count(2));
        due(0, x.land(600));
        due(0, x.count(2));
        // the highest byte first: "law 7;" and what is behind it is not asked
        due(20, x.feed(0x6c617720, 0x373b8081, -1, -1, -1));
        due(0, x.land(6));
        due(7, x.told(5));
        // signs above 127 are such, not below 0
        x.feed(0x2020ff20, 0, 0, 0, 0);
        due(-9, x.land(4));
        due(2, x.fault());
    }

    private static void land() {
        MendingRoads x = of("road 0 1 5 1 3;going 0 1 127 1;wet 3;law 4;");
        x.day(0);
        x.row(1);
        x.image();
        feed(x, "places 3;");
        refused(WRONG, () -> x.land(-1));
        refused(WRONG, () -> x.land(21));
        due(20, x.count(2));
        // a fault: all stays, but the tape is empty
        due(-6, tell(of(""), "law 3;places 3;"));
        due(-9, x.land(8));
        due(0, x.count(2));
        due(1, x.told(6));
        due(1, x.road(0, 5));
        due(1, x.count(0));
        due(1, x.count(1));
        due(4, x.told(5));
        // no fault: a new land from its first day on
        due(2, tell(x, "places 3;road 0 1 5 1 3;road 1 2 5 1 3;"));
        int[] told = {3, 2, 0, 0, 0, 9, 0};
        for (int i = 0; i < told.length; i++) due(told[i], x.told(i));
        due(0, x.road(0, 5));
        due(9, x.road(0, 6));
        due(0, x.count(0));
        due(0, x.count(1));
        // the first n bytes alone count, the rest of the tape goes
        feed(x, "law 5;law 6;");
        due(0, x.land(6));
        due(5, x.told(5));
        due(0, x.count(2));
        due(0, x.land(0));
        due(9, x.told(5));
        // the last law, chance and wait count; a number may have noughts ahead, blanks may lack
        due(1, tell(x, "road0 01 5 0 000000000000000000000009;going 0 1 1 1;law3;law 11;wait0 6;wait 0 0;chance 0 1;chance0 2 ;  "));
        due(11, x.told(5));
        due(9, x.road(0, 4));
        due(2, x.going(0, 4));
        due(0, x.going(0, 5));
    }

    private static void fault() {
        MendingRoads x = new MendingRoads();
        due(-1, x.fault());
        due(-9, tell(x, "  x"));
        due(2, x.fault());
        refused(WRONG, () -> x.land(1));
        due(2, x.fault());
        due(0, tell(x, " "));
        due(-1, x.fault());
        // 1: what can't stand there
        fault(1, 0, ";");
        fault(1, 0, "roads 1;");
        fault(1, 0, "roa");
        fault(1, 0, "Road 0 1 5 0 5;");
        fault(1, 0, "lawz 5;");
        fault(1, 0, "xoad 0 1 5 0 5;");
        fault(1, 0, "lax 5;");
        fault(1, 3, "law");
        fault(1, 5, "law  ");
        fault(1, 5, "law 5");
        fault(1, 7, "law 5  ");
        fault(1, 4, "law x5;");
        fault(1, 4, "law -5;");
        fault(1, 4, "law ;");
        fault(1, 5, "law 5x;");
        fault(1, 6, "law 5 6;");
        fault(1, 6, "law 5;;");
        fault(1, 8, "road 0 1;");
        fault(1, 12, "road 0 1 5 0;");
        fault(1, 15, "road 0 1 5 0 5 5;");
        fault(1, 6, "law 5;\tlaw 5;");
        // 2: a number that is none such
        fault(2, 7, "places 1;");
        fault(2, 7, "places 13;");
        fault(0, -1, "places 12;");
        fault(2, 5, "road 4 1 5 0 5;");
        fault(2, 7, "road 0 4 5 0 5;");
        fault(2, 7, "road 1 1 5 0 5;");
        fault(2, 9, "road 0 1 0 0 5;");
        fault(2, 9, "road 0 1 100 0 5;");
        fault(2, 11, "road 0 1 5 10 5;");
        fault(2, 13, "road 0 1 5 0 0;");
        fault(2, 13, "road 0 1 5 0 31;");
        fault(2, 12, "new 0 1 5 0 31;");
        fault(2, 6, "new 2 2 5 0 30;");
        fault(2, 8, "going 1 1 1 1;");
        fault(2, 8, "going 0 4 1 1;");
        fault(2, 10, "going 0 1 0 1;");
        fault(2, 10, "going 0 1 128 1;");
        fault(2, 12, "going 0 1 1 0;");
        fault(2, 12, "going 0 1 1 10;");
        fault(2, 7, "chance 0 1;");
        fault(2, 23, "going 0 1 1 1;chance 0 0;");
        fault(2, 23, "going 0 1 1 1;chance 0 9;");
        fault(2, 21, "going 0 1 1 1;chance 1 9;");
        fault(2, 5, "wait 0 7;");
        fault(2, 21, "going 0 1 1 1;wait 0 7;");
        fault(2, 4, "wet 1000;");
        fault(2, 4, "law 2;");
        fault(2, 4, "law 12;");
        fault(2, 4, "law 4294967301;");
        fault(2, 4, "law 18446744073709551621;");
        // the first from the left: the number, not the sign behind it
        fault(2, 4, "law 2x");
        // 3: too many
        fault(3, 60 * 5, "law3;".repeat(61));
        fault(3, 60 * 5 + 1, "law3;".repeat(60) + " places 99");
        fault(1, 60 * 5, "law3;".repeat(60) + "lawn");
        fault(0, -1, "law3;".repeat(60));
        fault(3, 10 * 15, "road 0 1 1 0 1;".repeat(10) + "road");
        fault(3, 4 * 14, "new 0 1 1 0 1;".repeat(5));
        fault(3, 14 * 14, "going 0 1 1 1;".repeat(15));
        fault(3, 48, "wet 1;wet 2;wet 3;wet 4;wet 5;wet 6;wet 7;wet 8;wet 1;");
        fault(0, -1, "wet 1;".repeat(50));
        // 4: places too late, or again
        fault(4, 6, "law 5;places 3;");
        fault(4, 9, "places 3;places 3;");
        fault(4, 9, "places 3;places 99;");
    }

    private static void told() {
        MendingRoads x = of("places 5;road 0 1 1 0 1;new 1 2 3 4 5;new 1 2 3 4 5;going 0 1 1 1;wet 5;wet 6;wet 5;law 4;");
        int[] told = {5, 1, 2, 1, 2, 4, 0};
        for (int i = 0; i < told.length; i++) due(told[i], x.told(i));
        x.run(0, 366);
        due(366, x.told(6));
        refused(WRONG, () -> x.told(-1));
        refused(WRONG, () -> x.told(7));
    }

    private static void road() {
        MendingRoads x = of("road 1 3 7 2 3;going 1 3 127 3;");
        int[] facts = {1, 3, 7, 2, 3, 0, 9, 7};
        for (int i = 0; i < facts.length; i++) due(facts[i], x.road(0, i));
        x.day(0);
        due(3, x.road(0, 5));
        due(0, x.road(0, 6));
        due(13, x.road(0, 7));
        x.day(0);
        due(6, x.road(0, 5));
        due(-1, x.road(0, 7));
        // past use nobody goes: it has a rested day each, and is whole with the ninth
        x.run(0, 8);
        due(6, x.road(0, 5));
        due(8, x.road(0, 6));
        x.day(0);
        due(0, x.road(0, 5));
        due(9, x.road(0, 6));
        refused(NO_ROAD, () -> x.road(1, 0));
        refused(NO_ROAD, () -> x.road(-1, 99));
        refused(WRONG, () -> x.road(0, 8));
        refused(WRONG, () -> x.road(0, -1));
    }

    private static void going() {
        MendingRoads x = of("going 1 2 65 4;chance 0 3;wait 0 2;going 2 1 1 9;");
        int[] facts = {1, 2, 65, 4, 3, 2};
        for (int i = 0; i < facts.length; i++) due(facts[i], x.going(0, i));
        due(8, x.going(1, 4));
        due(0, x.going(1, 5));
        refused(NO_GOING, () -> x.going(2, 0));
        refused(NO_GOING, () -> x.going(-1, 9));
        refused(WRONG, () -> x.going(0, 6));
        refused(WRONG, () -> x.going(0, -1));
    }

    // ---- ways and days ----

    private static final String SQUARE = "road 0 1 5 0 9;road 1 3 5 0 9;road 0 2 4 0 9;road 2 3 6 0 9;road 0 3 11 0 9;going 0 3 1 1;";

    private static void way() {
        MendingRoads x = of(SQUARE);
        due(10, x.way(0, 0));
        due(10, x.way(0, 1));
        due(11, x.way(0, 5));
        due(-1, x.way(0, 21));
        x.day(0);
        // on another day of the week too
        due(10, x.way(0, 0));
        refused(NO_GOING, () -> x.way(1, 99));
        refused(NO_GOING, () -> x.way(-1, 0));
        refused(WRONG, () -> x.way(0, 32));
        refused(WRONG, () -> x.way(0, -1));
        // wear makes it longer, past use shuts it
        MendingRoads y = of("road 0 1 5 9 2;road 1 0 60 0 30;going 1 0 127 2;");
        y.day(0);
        due(23, y.way(0, 0));
        y.day(0);
        due(60, y.way(0, 0));
        due(-1, y.way(0, 2));
    }

    private static void by() {
        MendingRoads x = of(SQUARE);
        due(0, x.by(0, 0, 0));
        due(1, x.by(0, 0, 1));
        due(-1, x.by(0, 0, 2));
        due(-1, x.by(0, 0, -1));
        due(2, x.by(0, 1, 0));
        due(3, x.by(0, 2, 1));
        due(4, x.by(0, 5, 0));
        due(-1, x.by(0, 21, 0));
        refused(NO_GOING, () -> x.by(1, 32, 0));
        refused(WRONG, () -> x.by(0, 32, 0));
        // of ways alike the first road by road, though it has more of them
        MendingRoads y = of("road 0 1 5 0 9;road 0 3 10 0 9;road 3 1 5 0 9;going 0 3 1 1;");
        due(0, y.by(0, 0, 0));
        due(2, y.by(0, 0, 1));
        // and though it's the last road of the other way that is less
        MendingRoads z = of("road 1 3 5 0 9;road 0 2 5 0 9;road 2 3 5 0 9;road 0 1 5 0 9;going 0 3 1 1;going 3 0 1 1;");
        due(1, z.by(0, 0, 0));
        due(2, z.by(0, 0, 1));
        due(0, z.by(1, 0, 0));
        due(3, z.by(1, 0, 1));
    }

    private static void shuts() {
        // above half of 4: from 3 on
        MendingRoads x = of("road 0 1 5 0 4;road 0 1 9 0 5;going 0 1 127 1;");
        x.run(0, 2);
        due(0, x.shuts(2));
        x.day(0);
        due(1, x.shuts(2));
        due(0, x.shuts(0));
        due(0, x.shuts(3));
        x.day(1);
        // worn and rested for a day
        due(1, x.shuts(3));
        x.day(1);
        due(1, x.shuts(2));
        x.day(1);
        // both have 3, above half of 5 too: the first
        due(1, x.shuts(2));
        x.day(1);
        due(2, x.shuts(2));
        refused(WRONG, () -> x.shuts(1));
        refused(WRONG, () -> x.shuts(4));
        refused(WRONG, () -> x.shuts(-1));
        // the only way there is stays open, but on days on which nobody goes
        MendingRoads y = of("road 0 1 5 0 4;going 0 1 7 1;");
        y.run(0, 3);
        due(1, y.shuts(2));
        MendingRoads z = of("road 0 1 5 0 4;going 0 1 127 1;");
        z.run(0, 3);
        due(0, z.shuts(2));
        // if the worst can't be shut, no other is
        MendingRoads v = of("places 3;road 0 1 5 0 9;road 1 2 5 0 9;road 1 2 6 0 9;going 0 1 127 3;going 1 2 127 2;");
        v.run(0, 3);
        due(9, v.road(0, 5));
        due(6, v.road(1, 5));
        due(0, v.shuts(2));
        // the first rested can't be shut, the second can
        MendingRoads w = of("places 3;road 0 1 5 0 9;road 0 2 5 0 9;going 0 1 5 1;going 0 2 1 1;");
        w.day(0);
        due(0, w.shuts(3));
        w.day(0);
        due(2, w.shuts(3));
        // by number: with the first shut the second is needed
        MendingRoads u = of("road 0 1 5 0 9;road 0 1 5 0 9;going 0 1 11 1;");
        u.day(2);
        u.day(1);
        due(1, u.shuts(3));
        u.day(0);
        due(1, u.shuts(3));
        u.day(3);
        due(3, u.shuts(3));
    }

    private static void day() {
        MendingRoads x = of("places 3;road 0 1 10 2 6;road 0 1 14 0 30;road 1 2 5 1 10;going 0 2 3 2;law 3;wet 2;");
        due(15, x.day(0));
        due(19, x.day(1) - 2);
        due(2, x.road(0, 5));
        due(1, x.road(0, 6));
        // a wet day on which nobody goes
        due(0, x.day(0));
        due(3, x.road(0, 5));
        due(3, x.road(1, 5));
        due(5, x.road(2, 5));
        due(0, x.road(1, 6));
        // three days of rest, none of them wet
        x.day(7);
        x.day(7);
        due(3, x.road(0, 5));
        due(2, x.road(0, 6));
        x.day(7);
        due(0, x.road(0, 5));
        due(3, x.road(0, 6));
        due(6, x.told(6));
        x.day(0);
        due(1000, x.day(4));
        refused(WRONG, () -> x.day(8));
        refused(WRONG, () -> x.day(-1));
        due(8, x.told(6));
        // wear at the beginning of the day counts for all; 99 at most
        MendingRoads y = of("road 0 1 1 9 30;" + "going 0 1 127 9;".repeat(14));
        due(14, y.day(0));
        due(99, y.road(0, 5));
        due(14000, y.day(0));
        due(99, y.road(0, 5));
    }

    private static void run() {
        MendingRoads x = of("road 0 1 5 0 4;road 0 1 9 0 30;going 0 1 127 1;");
        due(5 * 5 + 9, x.run(0, 6));
        due(6, x.told(6));
        // chances and waits are nothing to it
        due(10, of("road 0 1 5 0 4;going 0 1 127 1;chance 0 1;wait 0 6;").run(0, 2));
        refused(NO_ROW, () -> x.run(1, 1));
        refused(WRONG, () -> x.run(1, 0));
        refused(WRONG, () -> x.run(0, 367));
        refused(WRONG, () -> x.run(4, 1));
        refused(WRONG, () -> x.run(-1, 1));
        due(6, x.told(6));
        // the row's first on the first day that is asked, each time
        MendingRoads y = of("road 0 1 5 0 30;road 0 1 9 0 30;going 0 1 127 1;");
        y.row(1);
        y.row(0);
        due(9, y.run(1, 1));
        due(9, y.run(1, 1));
        due(9 + 5 + 9, y.run(1, 3));
        // the worst: above half of 4 it is left alone
        MendingRoads z = of("road 0 1 5 0 4;road 0 1 9 0 30;going 0 1 127 1;");
        due(3 * 5 + 9 * 9, z.run(2, 12));
        due(0, z.road(0, 5));
        // the rested: 5, 7, 9; then 9 along the other, and the first is let be whole: 12, 15, and 5 again
        MendingRoads w = of("road 0 1 5 2 30;road 0 1 9 3 30;going 0 1 127 1;law 3;");
        due(5 + 7 + 9 + 9 + 11, w.would(0, 5, 0));
        due(5 + 7 + 9 + 9 + 12 + 15 + 5, w.run(3, 7));
        due(7, w.told(6));
    }

    private static void would() {
        MendingRoads x = of("road 0 1 5 0 4;road 0 1 9 0 30;going 0 1 127 1;going 2 3 1 1;");
        due(5 * 5 + 9 + 1000, x.would(0, 6, 0));
        due(1, x.would(0, 7, 1));
        due(2, x.would(0, 8, 1));
        due(1, x.would(0, 6, 2));
        due(5, x.would(0, 6, 3));
        due(0, x.would(0, 4, 2));
        due(0, x.told(6));
        due(0, x.road(0, 5));
        refused(NO_ROW, () -> x.would(1, 1, 0));
        x.row(1);
        due(9 * 3 + 1000, x.would(1, 3, 0));
        due(3, x.would(1, 3, 3));
        refused(WRONG, () -> x.would(4, 1, 0));
        refused(WRONG, () -> x.would(0, 0, 0));
        refused(WRONG, () -> x.would(0, 367, 0));
        refused(WRONG, () -> x.would(0, 1, 4));
        refused(WRONG, () -> x.would(0, 1, -1));
    }

    // ---- the row ----

    private static void row() {
        MendingRoads x = of("road 0 1 5 0 4;");
        refused(WRONG, () -> x.row(2));
        refused(WRONG, () -> x.row(-1));
        for (int i = 1; i <= 30; i++) due(i, x.row(i % 2));
        due(-1, x.row(0));
        refused(WRONG, () -> x.row(2));
        due(30, x.count(0));
    }

    private static void clear() {
        MendingRoads x = of("road 0 1 5 0 4;");
        due(0, x.clear());
        x.row(0);
        x.row(1);
        due(2, x.clear());
        due(0, x.count(0));
        refused(NO_ROW, () -> x.run(1, 1));
        due(1, x.row(1));
    }

    private static final String TWO = "road 0 1 5 0 3;road 0 1 9 0 3;going 0 1 127 1;law 3;";

    private static void judge() {
        MendingRoads x = of("road 0 1 5 0 3;road 2 3 5 0 3;going 2 3 8 1;going 0 1 126 1;");
        for (int i = 0; i < 4; i++) due(-1, x.judge(i));
        for (int i = 0; i < 6; i++) x.row(0);
        due(4, x.judge(0));
        due(0, x.judge(1));
        due(5, x.judge(2));
        due(1, x.judge(3));
        // from the state as it is, by days of the row: day 0 of the row is day 1
        x.day(0);
        due(3, x.judge(0));
        due(4, x.judge(2));
        x.clear();
        x.row(0);
        x.row(0);
        x.row(3);
        // that day both stay: the first of them
        due(-1, x.judge(0));
        due(-1, x.judge(1));
        due(2, x.judge(2));
        due(0, x.judge(3));
        due(1, x.told(6));
        refused(WRONG, () -> x.judge(4));
        refused(WRONG, () -> x.judge(-1));
        // wet days count here
        MendingRoads y = of(TWO + "wet 0;");
        for (int i = 0; i < 3; i++) y.row(0);
        due(2, y.judge(0));
    }

    private static void minutes() {
        MendingRoads x = of(TWO);
        due(0, x.minutes());
        x.row(0);
        x.row(1);
        x.row(3);
        due(5 + 9 + 1000, x.minutes());
        due(0, x.told(6));
        x.run(0, 4);
        due(9 + 9 + 1000, x.minutes());
    }

    private static void ever() {
        MendingRoads x = of(TWO + "wet 1;");
        refused(NO_ROW, () -> x.ever(0));
        refused(WRONG, () -> x.ever(4));
        refused(WRONG, () -> x.ever(-1));
        for (int i = 0; i < 6; i++) x.row(i < 3 ? 2 : 1);
        // three days each by turns: from the third day on all is as it was when row and week come round
        due(1, x.ever(0));
        due(3, x.ever(1));
        due(42, x.ever(2));
        due(-1, x.ever(3));
        x.clear();
        // four days by one of them are too many
        for (int i = 0; i < 8; i++) x.row(i < 4 ? 2 : 1);
        due(0, x.ever(0));
        due(3, x.ever(3));
        x.clear();
        // a day on which all is shut: somebody stays
        for (int i = 0; i < 7; i++) x.row(i < 3 ? 2 : i < 6 ? 1 : 3);
        due(0, x.ever(0));
        due(7, x.ever(2));
        due(6, x.ever(3));
        x.day(0);
        due(2, x.ever(3));
        due(1, x.told(6));
        // nobody goes: as it was after a week
        MendingRoads y = new MendingRoads();
        y.row(0);
        due(1, y.ever(0));
        due(0, y.ever(1));
        due(7, y.ever(2));
        y.row(0);
        due(14, y.ever(2));
        // a row as long as two weeks comes round with them
        for (int i = 0; i < 12; i++) y.row(0);
        due(14, y.ever(2));
        // past use now, by two wet days: what it is at the end of the first day counts
        MendingRoads w = of("road 0 1 5 0 1;wet 0;wet 1;law 3;");
        w.row(0);
        w.run(0, 3);
        due(-1, w.road(0, 7));
        due(0, w.ever(0));
        due(2, w.ever(1));
        due(7, w.ever(2));
        due(0, w.ever(3));
        w.day(0);
        due(-1, w.road(0, 7));
        due(1, w.ever(0));
        due(1, w.ever(1));
        due(-1, w.ever(3));
        // From the first day on it would be 4,249 days till the round is closed: from day 249 on it is 4,000
        // (found by a search, not by hand).
        MendingRoads z = of("places 5;law 10;road 1 3 23 2 22;road 1 2 28 3 14;road 0 4 4 0 14;road 0 2 30 1 15;road 4 1 17 1 5;"
            + "road 2 3 16 3 17;road 3 4 6 1 24;road 1 4 19 2 5;road 3 1 23 2 28;road 1 0 11 3 23;going 2 3 67 2;going 3 0 41 2;"
            + "going 1 2 42 3;going 1 3 8 1;going 2 1 83 2;going 1 4 46 1;going 1 3 107 5;");
        z.row(0);
        z.run(0, 248);
        due(0, z.ever(0));
        due(-1, z.ever(1));
        due(-1, z.ever(2));
        z.day(0);
        due(3538, z.ever(1));
        due(462, z.ever(2));
    }

    private static void fewest() {
        MendingRoads x = new MendingRoads();
        due(4, x.fewest(3, 10, 0));
        due(3, x.fewest(3, 10, 1));
        due(12, x.fewest(3, 10, 2));
        due(10, x.fewest(99, 99, 0));
        due(1, x.fewest(1, 1, 1));
        due(2, x.fewest(1, 99, 0));
        due(99, x.fewest(1, 99, 1));
        due(198, x.fewest(1, 99, 2));
        for (int i = 0; i < 3; i++) due(-1, x.fewest(10, 9, i));
        refused(WRONG, () -> x.fewest(0, 9, 0));
        refused(WRONG, () -> x.fewest(100, 9, 0));
        refused(WRONG, () -> x.fewest(1, 0, 0));
        refused(WRONG, () -> x.fewest(1, 100, 0));
        refused(WRONG, () -> x.fewest(1, 1, 3));
        refused(WRONG, () -> x.fewest(1, 1, -1));
        tell(x, "law 3;");
        due(2, x.fewest(3, 10, 0));
        due(3, x.fewest(2, 5, 0));
    }

    private static void lasts() {
        MendingRoads x = new MendingRoads();
        due(0, x.lasts(4, 7, 6));
        due(3, x.lasts(1, 3, 10));
        due(9, x.lasts(3, 3, 10));
        due(-1, x.lasts(4, 3, 10));
        due(-1, x.lasts(2, 99, 891));
        due(9, x.lasts(1, 99, 891));
        due(16, x.lasts(2, 1, 8));
        refused(WRONG, () -> x.lasts(0, 1, 1));
        refused(WRONG, () -> x.lasts(5, 1, 1));
        refused(WRONG, () -> x.lasts(1, 0, 0));
        refused(WRONG, () -> x.lasts(1, 100, 1));
        refused(WRONG, () -> x.lasts(1, 1, 0));
        refused(WRONG, () -> x.lasts(1, 2, 19));
        tell(x, "law 3;");
        due(-1, x.lasts(2, 1, 3));
        due(4, x.lasts(2, 1, 2));
        due(-1, x.lasts(4, 1, 1));
        due(3, x.lasts(3, 1, 1));
    }

    // ---- the least ----

    /** One of nine weights on the first day, two others on the second: the short road is better kept for these. */
    private static final String KEPT = "road 0 1 5 9 30;road 0 1 6 0 30;going 0 1 1 9;going 0 1 2 1;going 0 1 2 1;";
    /** Three roads in a row that wear to 30 and 1,107 minutes in three days. */
    private static final String LONG = "road 0 1 99 9 30;road 1 2 99 9 30;road 2 3 99 9 30;going 0 3 127 9;wet 0;wet 1;wet 2;";

    private static void best() {
        MendingRoads x = of(KEPT);
        due(5, x.best(1, 0));
        due(0, x.best(1, 1));
        due(16, x.best(2, 0));
        due(1, x.best(2, 1));
        due(16, x.best(3, 0));
        due(0, x.told(6));
        refused(WRONG, () -> x.best(0, 0));
        refused(WRONG, () -> x.best(4, 0));
        refused(WRONG, () -> x.best(1, 2));
        refused(WRONG, () -> x.best(1, -1));
        // to stay costs less than so long a way
        MendingRoads y = of(LONG);
        y.run(0, 3);
        due(1107, y.way(0, 0));
        due(1000, y.best(1, 0));
        due(1, y.best(1, 1));
        MendingRoads z = of("road 0 1 1 0 1;".repeat(7));
        due(-2, z.best(3, 0));
        refused(WRONG, () -> z.best(0, 0));
        due(0, of("road 0 1 1 0 1;".repeat(6)).best(3, 1));
    }

    private static void gap() {
        MendingRoads x = of(KEPT);
        due(0, x.gap(1));
        due(1, x.gap(2));
        due(1, x.gap(3));
        refused(WRONG, () -> x.gap(0));
        refused(WRONG, () -> x.gap(4));
        MendingRoads y = of(LONG);
        y.run(0, 3);
        due(107, y.gap(1));
        due(0, of("road 0 1 1 0 1;".repeat(6)).gap(3));
        MendingRoads z = of("road 0 1 1 0 1;".repeat(7));
        due(-2, z.gap(1));
        refused(WRONG, () -> z.gap(4));
    }

    // ---- otherwise ----

    private static void toll() {
        MendingRoads x = of("road 0 1 5 0 30;road 0 1 7 0 30;going 0 1 127 1;");
        due(15, x.toll(0, 3, 0));
        due(0, x.toll(0, 3, 1));
        // 3 a wear: 5, then 7 along the other, then 5 and 3 to pay
        due(17, x.toll(3, 3, 0));
        due(3, x.toll(3, 3, 1));
        // 2 a wear: alike on the second day, so the first; then the other
        due(17, x.toll(2, 3, 0));
        due(2, x.toll(2, 3, 1));
        due(0, x.told(6));
        refused(WRONG, () -> x.toll(-1, 1, 0));
        refused(WRONG, () -> x.toll(21, 1, 0));
        refused(WRONG, () -> x.toll(1, 0, 0));
        refused(WRONG, () -> x.toll(1, 367, 0));
        refused(WRONG, () -> x.toll(1, 1, 2));
        refused(WRONG, () -> x.toll(1, 1, -1));
        // who stays pays nothing
        MendingRoads y = of("going 0 1 127 1;");
        due(2000, y.toll(20, 2, 0));
        due(0, y.toll(20, 2, 1));
    }

    private static void keep() {
        MendingRoads x = of("road 0 1 5 0 30;road 0 1 7 0 30;going 0 1 127 1;");
        due(0, x.keep(5));
        refused(WRONG, () -> x.keep(0));
        refused(WRONG, () -> x.keep(367));
        // On the second day one of weight 9 may go by 5 and 1, or 8 minutes: with 3 a wear it takes the 8,
        // and two on the third have 6 each, not 8.
        MendingRoads y = of("road 0 1 5 1 30;road 0 1 8 0 30;going 0 1 1 1;going 0 1 2 9;going 0 1 4 1;going 0 1 4 1;");
        due(5 + 6 + 8 + 8, y.toll(0, 3, 0));
        due(5 + 6 + 8 + 8, y.toll(2, 3, 0));
        due(5 + 8 + 6 + 6, y.toll(3, 3, 0));
        due(3, y.keep(3));
        due(0, y.keep(2));
        due(0, y.told(6));
        // likewise with 5 and 1, or 25 minutes, and twelve who come on the third day: only 20 a wear are enough
        MendingRoads z = of("road 0 1 5 1 30;road 0 1 25 0 30;going 0 1 1 1;going 0 1 2 9;" + "going 0 1 4 1;".repeat(12));
        due(5 + 6 + 12 * 25, z.toll(19, 3, 0));
        due(5 + 25 + 12 * 6, z.toll(20, 3, 0));
        due(20, z.keep(3));
    }

    private static final String PAIR = "road 0 1 5 2 30;road 0 1 9 0 30;going 0 1 127 9;going 0 1 127 1;";

    private static void careless() {
        MendingRoads x = of(PAIR);
        refused(NO_ROW, () -> x.careless(0, 2));
        refused(WRONG, () -> x.careless(0, 0));
        x.row(1);
        x.row(0);
        // heedful: 9, then 5; else the first is worn by 9 on the second day: 9 again
        due(0, x.careless(0, 1));
        due(4, x.careless(0, 2));
        due(0, x.told(6));
        refused(NO_GOING, () -> x.careless(2, 0));
        refused(NO_GOING, () -> x.careless(-1, 1));
        refused(WRONG, () -> x.careless(1, 0));
        refused(WRONG, () -> x.careless(1, 367));
        // he may leave a road to the others that he would have worn
        MendingRoads y = of("road 0 1 5 9 30;road 0 1 9 9 30;going 0 1 127 1;going 0 1 127 1;");
        y.row(1);
        due(9 + 18 - (9 + 27), y.careless(0, 2));
    }

    private static void each() {
        MendingRoads x = of(PAIR);
        // with both: 5, then 9; alone: 5, then 7
        due(2, x.each(0, 2));
        due(0, x.each(0, 1));
        // without the second: 5 and 9 as before
        due(0, x.each(1, 2));
        due(0, x.told(6));
        refused(NO_GOING, () -> x.each(2, 0));
        refused(NO_GOING, () -> x.each(-1, 1));
        refused(WRONG, () -> x.each(0, 0));
        refused(WRONG, () -> x.each(0, 367));
        // who stays costs himself alone
        due(0, of("going 0 1 127 1;").each(0, 3));
    }

    private static void hold() {
        MendingRoads x = of("road 0 1 5 1 30;going 0 1 1 9;wait 0 2;going 0 1 2 1;going 0 1 2 1;");
        // 5 and 14 twice; a day later: 5 three times, two later: 5 twice, then 7
        due(33 - 15, x.hold(0, 1, 2));
        due(33 - 10, x.hold(0, 2, 2));
        due(33 - 17, x.hold(0, 2, 3));
        due(0, x.told(6));
        refused(WRONG, () -> x.hold(0, 3, 3));
        refused(WRONG, () -> x.hold(0, 0, 3));
        refused(WRONG, () -> x.hold(1, 1, 3));
        refused(WRONG, () -> x.hold(0, 1, 0));
        refused(WRONG, () -> x.hold(0, 1, 367));
        refused(NO_GOING, () -> x.hold(3, 1, 0));
        refused(NO_GOING, () -> x.hold(-1, 1, 1));
        // none is left over from the day before; it may cost more too
        MendingRoads y = of("road 0 1 5 1 30;going 0 1 1 9;wait 0 1;going 0 1 4 1;law 3;");
        y.day(0);
        due(0, y.hold(0, 1, 3));
        MendingRoads z = of("road 0 1 5 1 30;going 0 1 1 9;wait 0 6;going 0 1 64 1;law 3;");
        due(5 + 5 - (5 + 5), z.hold(0, 2, 7));
        due(5 + 5 - (5 + 14), z.hold(0, 5, 7));
    }

    private static void who() {
        MendingRoads x = of("road 0 1 5 1 30;going 0 1 1 9;wait 0 2;going 0 1 2 1;going 0 1 2 1;wait 2 6;");
        due(2, x.who(2));
        due(1, x.who(3));
        refused(WRONG, () -> x.who(0));
        refused(WRONG, () -> x.who(367));
        // all save alike: the first going and the least days
        MendingRoads y = of("going 0 1 127 1;going 0 1 127 1;wait 1 6;");
        due(13, y.who(3));
        due(11, y.who(1));
        due(-1, of("going 0 1 127 1;").who(3));
        due(-1, new MendingRoads().who(1));
        // none does, if it costs as much or more
        due(-1, of("road 0 1 5 0 30;going 0 1 1 9;wait 0 1;").who(2));
        MendingRoads z = of("road 0 1 5 1 30;going 0 1 1 9;wait 0 1;going 0 1 16 1;law 3;");
        due(5 + 5 - (5 + 14), z.hold(0, 1, 5));
        due(-1, z.who(5));
    }

    private static final String MIGHT = "road 0 1 9 0 30;new 0 1 8 9 30;new 0 1 7 0 1;new 0 1 7 0 1;going 0 1 127 1;";

    private static void more() {
        MendingRoads x = of(MIGHT);
        due(1, x.more(0, 1));
        // worn by 1 it is 17: 8, 9, 9
        due(1, x.more(0, 3));
        // past use above 1: 7, 7, 9
        due(4, x.more(1, 3));
        due(0, x.told(6));
        due(1, x.told(1));
        refused(WRONG, () -> x.more(3, 1));
        refused(WRONG, () -> x.more(-1, 1));
        refused(WRONG, () -> x.more(0, 0));
        refused(WRONG, () -> x.more(0, 367));
        // behind all others: of ways alike theirs is the first; a wet day wears it too
        MendingRoads y = of("road 0 1 9 0 1;new 0 1 9 0 30;new 0 1 99 0 30;going 0 1 127 1;wet 0;");
        due(1000 - 9, y.more(0, 2));
        due(1000 - 99, y.more(1, 2));
        // ten roads and one more
        due(3, of("road 0 1 9 0 30;".repeat(10) + "new 0 1 6 0 30;going 0 1 1 1;").more(0, 1));
    }

    private static void which() {
        MendingRoads x = of(MIGHT);
        due(1, x.which(1));
        due(1, x.which(5));
        due(-1, of("road 0 1 9 0 30;going 0 1 127 1;").which(5));
        // one that helps nobody is one too
        due(0, of("road 0 1 9 0 30;new 0 1 99 0 1;going 0 1 127 1;").which(5));
        refused(WRONG, () -> x.which(0));
        refused(WRONG, () -> x.which(367));
    }

    private static void men() {
        MendingRoads x = of("road 0 1 5 2 30;road 0 1 9 1 30;going 0 1 127 3;");
        x.day(0);
        x.day(0);
        // now 11 and 12: made whole 5, or 9
        due(6, x.men(0, 1));
        due(2, x.men(1, 1));
        due(3, x.road(0, 5));
        refused(NO_ROAD, () -> x.men(2, 0));
        refused(NO_ROAD, () -> x.men(-1, 1));
        refused(WRONG, () -> x.men(0, 0));
        refused(WRONG, () -> x.men(0, 367));
        due(0, of("road 0 1 5 2 30;going 0 1 127 3;").men(0, 9));
    }

    private static void beside() {
        MendingRoads x = of("road 0 1 5 2 30;road 0 1 9 1 30;going 0 1 127 3;");
        due(-1, x.beside(1));
        x.day(0);
        x.day(0);
        due(0, x.beside(1));
        refused(WRONG, () -> x.beside(0));
        refused(WRONG, () -> x.beside(367));
        // alike: the first
        MendingRoads y = of("road 2 3 5 0 30;road 0 1 5 1 30;road 0 1 5 1 30;going 0 1 127 3;");
        y.day(0);
        y.day(0);
        due(1, y.beside(1));
    }

    private static void law() {
        MendingRoads x = of("road 0 1 5 1 30;going 0 1 1 3;going 0 1 64 3;law 9;");
        x.run(0, 5);
        // wear 3 with 4 rested days; the next goes behind one more
        due(8, x.law(9, 2));
        due(8, x.law(6, 2));
        due(5, x.law(5, 2));
        due(5, x.law(4, 2));
        due(5, x.law(3, 2));
        due(4, x.road(0, 6));
        due(9, x.told(5));
        refused(WRONG, () -> x.law(2, 1));
        refused(WRONG, () -> x.law(12, 1));
        refused(WRONG, () -> x.law(3, 0));
        refused(WRONG, () -> x.law(3, 367));
        x.day(0);
        // five now, and it is the day: with a law of five or less it is whole at once
        due(5, x.law(4, 1));
        due(5, x.law(5, 1));
        due(8, x.law(6, 1));
        due(8, x.law(11, 1));
        // to ask changes nothing
        due(3, x.road(0, 5));
        due(5, x.road(0, 6));
        // past use, with just so many days of rest: open from the first day on
        MendingRoads y = of("road 0 1 5 9 2;going 0 1 17 3;");
        y.run(0, 4);
        due(-1, y.road(0, 7));
        due(5, y.law(3, 1));
        due(1000, y.law(4, 1));
        // the rested days are just n then, not more: used on the first day, it is worn on the next
        MendingRoads z = of("road 0 1 5 9 30;going 0 1 49 1;");
        z.run(0, 4);
        due(5 + 14, z.law(3, 2));
        due(14 + 23, z.law(4, 2));
    }

    private static void other() {
        MendingRoads x = of("road 0 1 5 1 30;going 0 1 1 3;going 0 1 64 3;law 9;");
        due(3, x.other(6));
        due(3, x.other(7));
        x.run(0, 5);
        due(3, x.other(2));
        refused(WRONG, () -> x.other(0));
        refused(WRONG, () -> x.other(367));
        // The long rest may cost less: while past use, the road that is there for others is not worn.
        MendingRoads y = of("places 3;road 0 1 1 0 1;road 1 2 1 9 30;road 0 2 9 0 30;going 0 2 1 2;going 0 2 16 9;going 1 2 32 9;");
        due(2 + 2 + 82, y.law(3, 6));
        due(2 + 9 + 1, y.law(4, 6));
        due(4, y.other(6));
        // Just so rested as the law asks: four days makes road 0 whole for the first day, and roads 1 and 2 not yet.
        MendingRoads w = of("road 0 3 5 9 30;road 0 1 1 0 1;road 1 2 1 9 30;road 0 2 9 0 30;"
            + "going 0 3 33 9;going 0 2 2 2;going 0 2 32 9;going 1 2 64 1;");
        w.run(0, 5);
        due(5 + 2 + 82, w.law(3, 2));
        due(5 + 9 + 1, w.law(4, 2));
        due(86 + 9 + 19, w.law(5, 2));
        due(4, w.other(2));
        // the greatest may be the best too (found by a search, not by hand)
        MendingRoads z = of("places 3;road 2 0 4 7 8;road 0 1 3 0 3;going 1 0 33 4;going 2 0 100 1;going 2 1 60 4;");
        due(9197, z.law(4, 13));
        due(10156, z.law(10, 13));
        due(9131, z.law(11, 13));
        due(11, z.other(13));
        for (int days = 1; days < 40; days++) due(bestLaw(z, days), z.other(days));
    }

    /** The first of the least, asked one by one. */
    private static int bestLaw(MendingRoads x, int days) {
        int found = 3;
        for (int n = 4; n <= 11; n++) {
            if (x.law(n, days) < x.law(found, days)) found = n;
        }
        return found;
    }

    private static void fits() {
        MendingRoads x = of("law 3;");
        due(8, x.fits(0, 0));
        due(8, x.fits(0, 20));
        due(1, x.fits(1, 1));
        due(9, x.fits(2, 1));
        due(2, x.fits(3, 2));
        // somebody, then three days nobody: whole
        due(8, x.fits(27, 4));
        // the latest is the lowest: not known, then somebody
        due(1, x.fits(7, 2));
        // somebody, then not known
        due(3, x.fits(5, 2));
        due(15, x.fits(3486784400L, 20));
        refused(WRONG, () -> x.fits(3486784401L, 20));
        refused(WRONG, () -> x.fits(-1, 20));
        refused(WRONG, () -> x.fits(1, 0));
        refused(WRONG, () -> x.fits(3, 1));
        refused(WRONG, () -> x.fits(0, -1));
        refused(WRONG, () -> x.fits(0, 21));
        due((1 << 12) - 1, of("law 11;").fits(3486784400L, 20));
    }

    private static void seed() {
        MendingRoads x = of("road 0 1 5 0 30;going 0 1 127 1;chance 0 4;going 2 3 127 1;chance 1 1;going 0 1 1 1;");
        long[] due = {0, 0, 0};
        long s = 77;
        for (int day = 0; day < 20; day++) {
            s = (s * 1103515245L + 12345) & 0xffffffffL;
            boolean first = (s >> 16) % 8 < 4;
            s = (s * 1103515245L + 12345) & 0xffffffffL;
            boolean second = (s >> 16) % 8 < 1;
            int gone = (first ? 1 : 0) + (day % 7 == 0 ? 1 : 0);
            due[0] += 5 * gone + (second ? 1000 : 0);
            due[1] += gone;
            due[2] += second ? 1 : 0;
        }
        for (int i = 0; i < 3; i++) due(due[i], x.seed(0, 20, 77, i));
        due(x.seed(0, 20, -1, 0), x.seed(0, 20, -1, 0));
        due(0, x.told(6));
        refused(NO_ROW, () -> x.seed(1, 1, 0, 0));
        refused(WRONG, () -> x.seed(4, 1, 0, 0));
        refused(WRONG, () -> x.seed(0, 0, 0, 0));
        refused(WRONG, () -> x.seed(0, 367, 0, 0));
        refused(WRONG, () -> x.seed(0, 1, 0, 3));
        refused(WRONG, () -> x.seed(0, 1, 0, -1));
        x.row(1);
        // the first draw of 0 is 0: he would go, but it is shut, and so is the sure one's way; the second's draw is 4
        due(2000, x.seed(1, 1, 0, 0));
        due(0, x.seed(1, 1, 0, 1));
        due(2, x.seed(1, 1, 0, 2));
    }

    // ---- images ----

    private static void image() {
        MendingRoads x = new MendingRoads();
        for (int i = 1; i <= 3; i++) due(i, x.image());
        due(-1, x.image());
        due(3, x.count(1));
    }

    private static void on() {
        MendingRoads x = of("road 0 1 5 0 30;going 0 1 127 1;law 3;");
        due(-1, x.on());
        x.row(1);
        x.image();
        x.day(0);
        x.row(0);
        x.image();
        x.run(0, 3);
        x.clear();
        feed(x, "law");
        due(1, x.on());
        due(1, x.told(6));
        due(1, x.road(0, 5));
        due(0, x.road(0, 6));
        due(2, x.count(0));
        due(20, x.count(2));
        due(0, x.on());
        due(0, x.told(6));
        due(0, x.road(0, 5));
        due(3, x.road(0, 6));
        due(1, x.count(0));
        due(1000, x.minutes());
        due(-1, x.on());
    }

    private static void count() {
        MendingRoads x = new MendingRoads();
        x.row(0);
        x.row(0);
        x.image();
        feed(x, "law 5;");
        due(2, x.count(0));
        due(1, x.count(1));
        due(20, x.count(2));
        due(-1, x.count(3));
        due(-1, x.count(-1));
    }
}
