/** The sentences of ==== 1 and of the promises 1 to 7: the text of a land, its faults, what it told. */
final class LandSentencesTest extends Sentences {
    private static final String ROAD = "road 0 1 1 0 1;";
    private static final String NEW = "new 0 1 1 0 1;";
    private static final String GOING = "going 0 1 1 1;";
    private static final String LAW = "law3;";

    public static void main(String[] args) {
        in("==== 1");
        text();
        places();
        roads();
        newRoads();
        goings();
        chancesAndWaits();
        wetDaysAndLaw();
        numbersWordsAndBlanks();
        faultsFromTheLeft();
        eachByteThatCannotStand();
        eachNumberThatIsNoneSuch();
        tooManyAndTooLate();
        theTape();
        theLand();
        faultAndTold();
        roadAndGoing();
        endAll("==== 1", "Promise 1", "Promise 2", "Promise 3", "Promise 4", "Promise 5", "Promise 6", "Promise 7");
    }

    // ---- ==== 1: the clauses ----

    private static void text() {
        says("A LAND is a text of up to 600 bytes: { CLAUSE \";\" }, at most 60.");
        due(0, of("").told(1));
        // 600 bytes, with a clause at their very end
        due(7, of("law 3;" + " ".repeat(588) + "law 7;").told(5));
        bad(1, "law 3;" + " ".repeat(589) + "law 7|");
        // 60 clauses in 600 bytes, and with blanks behind them; 61 in fewer
        due(7, of("law 00007;".repeat(60)).told(5));
        due(3, of(LAW.repeat(60) + "   ").told(5));
        due(4, of(LAW.repeat(59) + "law4;").told(5));
        bad(3, LAW.repeat(60) + "|law4;");
        // each of them is one of the sixty
        due(1, of("places 3;" + LAW.repeat(54) + ROAD + NEW + GOING + "chance 0 1;wet 1;").told(1));
        bad(3, "places 3;" + LAW.repeat(54) + ROAD + NEW + GOING + "chance 0 1;wet 1;|wet 1;");
        // none without its sign, no sign without a clause
        bad(1, "law 5|");
        bad(1, "law 5 |law 6;");
        bad(1, "|;");
        bad(1, "law 5;|;");
    }

    private static void places() {
        says("CLAUSE: \"places\" N (2 to 12, numbered from 0 on; 4 without; ahead of all others, once)");
        range("places ", 2, 12, ";");
        due(2, of("places 2;").told(0));
        due(12, of("places 12;").told(0));
        due(1, of("places 2;road 1 0 1 0 1;").told(1));
        bad(2, "places 2;road |2 0 1 0 1;");
        bad(2, "places 2;road 0 |2 1 0 1;");
        due(2, of("places 12;road 0 11 1 0 1;road 11 0 1 0 1;").told(1));
        bad(2, "places 12;going |12 0 1 1;");
        due(4, of("").told(0));
        due(4, of(ROAD).told(0));
        due(1, of("road 3 0 1 0 1;").told(1));
        bad(2, "road 0 |4 1 0 1;");
        for (String other : new String[] {ROAD, NEW, GOING, "wet 1;", LAW}) bad(4, other + "|places 4;");
        bad(4, "places 4;|places 4;");
        // a land behind one with places has 4 again
        MendingRoads x = of("places 12;");
        due(0, tell(x, LAW));
        due(4, x.told(0));
    }

    private static void roads() {
        says("\"road\" A B L S M (ROADS, numbered from 0 on, 10 at most: between two PLACES, L minutes when whole, 1 to 99, "
            + "S more for each WEAR, 0 to 9; past use with WEAR above M, 1 to 30)");
        MendingRoads ten = of(ROAD.repeat(9) + "road 2 3 7 1 2;");
        due(10, ten.told(1));
        due(0, ten.road(0, 0));
        due(2, ten.road(9, 0));
        due(7, ten.road(9, 2));
        refused(NO_ROAD, () -> ten.road(10, 0));
        bad(3, ROAD.repeat(10) + "|" + ROAD);
        range("road ", 0, 3, " 2 1 0 1;");
        range("road 2 ", 0, 3, " 1 0 1;");
        range("road 0 1 ", 1, 99, " 0 1;");
        range("road 0 1 1 ", 0, 9, " 1;");
        range("road 0 1 1 0 ", 1, 30, ";");
        // both ways along it
        MendingRoads both = of("road 2 1 5 0 9;going 1 2 1 1;going 2 1 1 1;");
        due(5, both.way(0, 0));
        due(5, both.way(1, 0));
        // 99 when whole, 9 more for each of 9; with just 30 it is open, with 39 it is not
        MendingRoads worn = of("road 0 1 99 9 30;going 0 1 7 9;going 0 1 8 3;going 0 1 16 9;");
        due(99, worn.day(0));
        due(99 + 81, worn.day(0));
        worn.run(0, 2);
        due(30, worn.road(0, 5));
        due(99 + 270, worn.road(0, 7));
        due(99 + 270, worn.day(0));
        due(39, worn.road(0, 5));
        due(-1, worn.road(0, 7));
        // the least M: with 1 it is open, with 2 it is not
        MendingRoads weak = of("road 0 1 1 0 1;going 0 1 127 1;");
        due(1 + 1 + 1000, weak.run(0, 3));
    }

    private static void newRoads() {
        says("\"new\" A B L S M (a ROAD that might be, likewise; 4 at most, numbered apart)");
        String four = "new 0 1 4 0 1;new 0 1 3 0 1;new 0 1 2 0 1;new 0 1 1 0 1;";
        MendingRoads x = of("road 0 1 9 0 30;" + four + GOING);
        due(1, x.told(1));
        due(4, x.told(2));
        due(9 - 4, x.more(0, 1));
        due(9 - 1, x.more(3, 1));
        due(9, x.road(0, 2));
        refused(NO_ROAD, () -> x.road(1, 0));
        refused(WRONG, () -> x.more(4, 1));
        bad(3, four + "|" + NEW);
        due(10, of(ROAD.repeat(10) + four).told(1));
        bad(3, ROAD.repeat(10) + four + "|" + NEW);
        bad(3, four + ROAD.repeat(10) + "|" + ROAD);
        range("new ", 0, 3, " 2 1 0 1;");
        range("new 2 ", 0, 3, " 1 0 1;");
        range("new 0 1 ", 1, 99, " 0 1;");
        range("new 0 1 1 ", 0, 9, " 1;");
        range("new 0 1 1 0 ", 1, 30, ";");
        // L, S and M are such here too: 99, and 9 more for each of 9, 18 and 27; then it is past use
        due(5000 - (99 + 180 + 261 + 342 + 1000), of("new 0 1 99 9 30;going 0 1 127 9;").more(0, 5));
        due(3000 - (1 + 1 + 1000), of("new 0 1 1 0 1;going 0 1 127 1;").more(0, 3));
    }

    private static void goings() {
        says("\"going\" P Q D W (GOINGS likewise, 14 at most: from PLACE P to Q, not the same, on DAYS of the week D, bits 1 to 127, "
            + "weight W, 1 to 9)");
        MendingRoads all = of(GOING.repeat(13) + "going 3 2 64 9;");
        due(14, all.told(3));
        due(0, all.going(0, 0));
        due(3, all.going(13, 0));
        due(2, all.going(13, 1));
        refused(NO_GOING, () -> all.going(14, 0));
        bad(3, GOING.repeat(14) + "|" + GOING);
        range("going ", 0, 3, " 2 1 1;");
        range("going 2 ", 0, 3, " 1 1;");
        range("going 0 1 ", 1, 127, " 1;");
        range("going 0 1 1 ", 1, 9, ";");
        bad(2, "going 3 |3 1 1;");
        // from P to Q: its ways are tried by the roads at P
        MendingRoads from = of("road 0 1 5 0 9;road 2 3 5 0 9;road 1 2 5 0 9;going 3 0 1 1;");
        due(1, from.by(0, 0, 0));
        due(0, from.by(0, 0, 2));
        // the lowest bit is day 0 of the week, the highest day 6
        for (int bit = 0; bit < 7; bit++) {
            MendingRoads one = of("road 0 1 5 0 30;going 0 1 " + (1 << bit) + " 1;");
            for (int day = 0; day < 15; day++) due(day % 7 == bit ? 5 : 0, one.day(0));
        }
        due(15 * 5, of("road 0 1 5 0 30;going 0 1 127 1;").run(0, 15));
        for (int weight : new int[] {1, 9}) {
            MendingRoads w = of("road 0 1 5 0 30;going 0 1 1 " + weight + ";");
            w.day(0);
            due(weight, w.road(0, 5));
        }
    }

    private static void chancesAndWaits() {
        says("\"chance\" K C (GOING K goes in C of 8, 1 to 8; 8 without)");
        range(GOING + "chance 0 ", 1, 8, ";");
        range(GOING.repeat(14) + "chance ", 0, 13, " 1;");
        MendingRoads x = of(GOING + GOING + "chance 1 1;");
        due(8, x.going(0, 4));
        due(1, x.going(1, 4));
        // by each draw of the eight that there are
        for (int c = 1; c <= 8; c++) {
            MendingRoads one = of("road 0 1 5 0 30;going 0 1 1 1;chance 0 " + c + ";");
            for (int draw = 0; draw < 8; draw++) due(draw < c ? 1 : 0, one.seed(0, 1, seedThatDraws(draw), 1));
        }
        says("\"wait\" K H (it may go up to H DAYS later, 0 to 6; 0 without)");
        range(GOING + "wait 0 ", 0, 6, ";");
        range(GOING.repeat(14) + "wait ", 0, 13, " 1;");
        MendingRoads y = of(GOING + GOING + GOING + "wait 1 6;wait 2 0;");
        due(0, y.going(0, 5));
        due(6, y.going(1, 5));
        due(0, y.going(2, 5));
        refused(WRONG, () -> y.hold(0, 1, 9));
        due(2000 - 1000, y.hold(1, 6, 9));
        refused(WRONG, () -> y.hold(2, 1, 9));
        // by chance and wait alone nothing is otherwise
        due(of(GOING).run(0, 9), of(GOING + "chance 0 1;wait 0 6;").run(0, 9));
        says("A, B: not the same; K: told ahead.");
        bad(2, "road 1 |1 1 0 1;");
        bad(2, "road 1 |01 1 0 1;");
        bad(2, "new 2 |2 1 0 1;");
        bad(2, "chance |0 1;" + GOING);
        bad(2, "wait |0 1;" + GOING);
        bad(2, GOING + "chance |1 1;" + GOING);
        bad(2, GOING + "wait |1 1;" + GOING);
        due(1, of(GOING + "chance 0 1;" + GOING).going(0, 4));
        // the goings of the land before are not told ahead
        MendingRoads z = of(GOING + GOING);
        due(-8, tell(z, "wait 1 1;"));
        due(5, z.fault());
    }

    private static int seedThatDraws(int draw) {
        for (int seed = 0; seed < 1000; seed++) {
            long next = (seed * 1103515245L + 12345) % (1L << 32);
            if (next / 65536 % 8 == draw) return seed;
        }
        throw new IllegalStateException("no such seed");
    }

    private static void wetDaysAndLaw() {
        says("\"wet\" D (a DAY, 0 to 999; twice as once; behind 8 unlike ones there is no wet any more)");
        range("wet ", 0, 999, ";");
        MendingRoads first = of("road 0 1 5 0 9;wet 0;");
        first.day(0);
        due(1, first.road(0, 5));
        first.day(0);
        due(1, first.road(0, 5));
        MendingRoads last = of("road 0 1 5 0 9;wet 999;");
        for (int days : new int[] {366, 366, 267}) last.run(0, days);
        due(999, last.told(6));
        due(0, last.road(0, 5));
        last.day(0);
        due(1, last.road(0, 5));
        MendingRoads twice = of("road 0 1 5 0 9;wet 1;wet 1;wet 001;");
        due(1, twice.told(4));
        twice.run(0, 2);
        due(1, twice.road(0, 5));
        String eight = "wet 1;wet 2;wet 1;wet 3;wet 4;wet 5;wet 2;wet 6;wet 7;wet 8;";
        due(8, of(eight).told(4));
        bad(3, eight + "|wet 9;");
        bad(3, eight + "|wet 8;");
        due(7, of("wet 1;wet 2;wet 3;wet 4;wet 5;wet 6;wet 7;wet 7;wet 1;").told(4));
        says("or \"law\" N (DAYS of rest, 3 to 11; 9 without).");
        range("law ", 3, 11, ";");
        due(3, of("law 3;").told(5));
        due(11, of("law 11;").told(5));
        due(9, of("").told(5));
        for (int n : new int[] {3, 9, 11}) {
            MendingRoads x = of("road 0 1 5 0 9;wet 0;" + (n == 9 ? "" : "law " + n + ";"));
            x.run(0, n);
            due(1, x.road(0, 5));
            x.day(0);
            due(0, x.road(0, 5));
        }
        says("Of chance, wait of one GOING, and law, the last counts.");
        MendingRoads x = of(GOING + GOING + "chance 0 1;wait 0 1;chance 1 3;wait 1 3;chance 0 5;wait 0 2;law 3;law 11;law 5;");
        due(5, x.going(0, 4));
        due(2, x.going(0, 5));
        due(3, x.going(1, 4));
        due(3, x.going(1, 5));
        due(5, x.told(5));
        // back to what is without them
        MendingRoads y = of(GOING + "chance 0 1;wait 0 6;chance 0 8;wait 0 0;law 3;law 9;");
        due(8, y.going(0, 4));
        due(0, y.going(0, 5));
        due(9, y.told(5));
    }

    private static void numbersWordsAndBlanks() {
        says("Numbers: digits, as many as stand there;");
        due(11, of("law 000000000000000000000000000000000000000011;").told(5));
        due(9, of("road 0 1 5 0 09;").road(0, 4));
        due(0, of("road 00 1 5 0 9;").road(0, 0));
        bad(2, "law |33;");
        bad(1, "road 01 |;");
        bad(1, "law |+5;");
        bad(1, "law 5|.0;");
        bad(1, "law |x5;");
        bad(1, "law 5|x5;");
        says("WORDS: small letters, as many as stand there;");
        due(5, of("law5;").told(5));
        bad(1, "|lawlaw 5;");
        bad(1, "|la 5;");
        bad(1, "|LAW 5;");
        bad(1, "|lawx5;");
        bad(1, "law|X5;");
        bad(1, "|newroad 0 1 1 0 1;");
        bad(1, "|5;");
        eachLetterOfAWord();
        says("blanks (32) may stand ahead of all these, and at the end.");
        MendingRoads x = of("   places   3 ;  road  0   1    5 0     9  ;going0 1 127 1;   law 7   ;    ");
        due(3, x.told(0));
        due(1, x.told(1));
        due(9, x.road(0, 4));
        due(127, x.going(0, 2));
        due(7, x.told(5));
        due(0, of("     ").told(1));
        due(0, of(" ".repeat(600)).told(1));
        bad(1, "|la w 5;");
        bad(1, "law 5 |5;");
        bad(1, "law|\t5;");
        bad(1, "law 5|\n;");
        bad(1, "law 5;|\n");
        bad(1, "|\u00a0law 5;");
        bad(1, "law 5;|\u0000");
    }

    /** A letter that is another, one less, one more, a great one: each makes another word of it. */
    private static void eachLetterOfAWord() {
        String[] words = {"places", "road", "new", "going", "chance", "wait", "wet", "law"};
        String[] numbers = {" 5;", " 0 1 5 0 5;", " 0 1 5 0 5;", " 0 1 5 5;", " 0 5;", " 0 5;", " 5;", " 5;"};
        for (int w = 0; w < words.length; w++) {
            String ahead = w == 0 ? "" : GOING;
            of(ahead + words[w] + numbers[w]);
            for (int i = 0; i < words[w].length(); i++) {
                String before = words[w].substring(0, i);
                String letter = words[w].substring(i, i + 1);
                String behind = words[w].substring(i + 1);
                bad(1, ahead + "|" + before + (letter.equals("z") ? "y" : "z") + behind + numbers[w]);
                bad(1, ahead + "|" + before + letter + letter + behind + numbers[w]);
                bad(1, ahead + "|" + before + behind + numbers[w]);
                // a great letter ends the word ahead of it
                bad(1, ahead + "|" + before + letter.toUpperCase() + behind + numbers[w]);
            }
        }
    }

    // ---- ==== 1: the faults ----

    private static void faultsFromTheLeft() {
        says("FAULTS, the first from the left, at its first byte:");
        bad(2, "law |2;xyz;");
        bad(1, "|xyz;law 2;");
        bad(2, "road |4 4 100 10 31;");
        bad(2, "road 0 |0 100 10 31;");
        bad(2, "road 0 1 |100 10 31;");
        bad(2, "road 0 1 1 |10 31;");
        bad(2, "road 0 1 1 0 |31x");
        bad(1, "road 0 |x 100 10 31;");
        bad(3, ROAD.repeat(10) + "|road 9 9 9 9 99;");
        bad(4, LAW + "|places 99;road 9;");
        bad(2, "law    |12;");
        bad(2, "law 3;   law    |0012   ;");
        bad(1, "   |xyz 12;");
    }

    private static void eachByteThatCannotStand() {
        says("1 what can't stand there (at the length, if the text ends too early);");
        // a clause cut anywhere
        String clause = "going 0 1 5 9 ;";
        for (int cut = 1; cut < clause.length(); cut++) {
            bad(1, cut < 5 ? "|" + clause.substring(0, cut) : clause.substring(0, cut) + "|");
            bad(1, "law3;  " + (cut < 5 ? "|" + clause.substring(0, cut) : clause.substring(0, cut) + "|"));
        }
        // n ends the text, though the tape goes on
        MendingRoads x = new MendingRoads();
        feed(x, "law 5;");
        due(-9, x.land(5));
        due(5, x.fault());
        // each byte where a word, a number, or a sign is due
        for (int b = 0; b < 256; b++) {
            char c = (char) b;
            boolean isDigit = c >= '0' && c <= '9';
            if (c == ' ') of(" ");
            else bad(1, "|" + c);
            boolean isLetter = c >= 'a' && c <= 'z';
            if (c == ' ') bad(1, "law |");
            else if (isDigit) bad(c < '3' ? 2 : 1, c < '3' ? "law|" + c : "law" + c + "|");
            else bad(1, isLetter ? "|law" + c + "5;" : "law|" + c + "5;");
            if (c == ';') due(5, of("law 5;").told(5));
            else if (isDigit) bad(2, "law |5" + c + ";");
            else bad(1, c == ' ' ? "law 5 |" : "law 5|" + c);
        }
        // too many numbers, too few
        String[] right = {"places 5", "road 0 1 5 0 5", "new 0 1 5 0 5", "going 0 1 5 5", "wet 5", "law 5", GOING + "chance 0 1", GOING + "wait 0 1"};
        for (String r : right) {
            of(r + ";");
            bad(1, r + " |5;");
            bad(1, r.substring(0, r.length() - 1) + "|;");
            bad(1, r + "|");
        }
    }

    private static void eachNumberThatIsNoneSuch() {
        says("2 a number that is none such (B, Q like A, P: at the second);");
        for (int place = 0; place < 4; place++) {
            bad(2, "road " + place + " |" + place + " 1 0 1;");
            bad(2, "new " + place + " |" + place + " 1 0 1;");
            bad(2, "going " + place + " |" + place + " 1 1;");
        }
        bad(2, "road |4 4 1 0 1;");
        bad(2, "going 0 1 |0 0;");
        bad(2, "going 0 1 |128 10;");
        bad(2, GOING + "chance |1 9;");
        bad(2, GOING + "chance 0 |0;");
        bad(2, GOING + "wait |1 7;");
        bad(2, "wet |1000;");
        bad(2, "law |12x");
        // at a number that is none such the text may end
        bad(2, "law |2");
        bad(2, "law |12");
    }

    private static void tooManyAndTooLate() {
        says("3 a CLAUSE, ROAD, new one, GOING or wet too many (at its word);");
        bad(3, LAW.repeat(60) + "   |law");
        bad(3, ROAD.repeat(10) + "   |road");
        bad(3, NEW.repeat(4) + "   |new");
        bad(3, GOING.repeat(14) + "   |going");
        bad(3, "wet 1;wet 2;wet 3;wet 4;wet 5;wet 6;wet 7;wet 8;   |wet");
        // others are not too many then
        due(10, of(ROAD.repeat(10) + NEW.repeat(4) + GOING + "law 3;wet 1;").told(1));
        says("4 places too late, or again (at the word);");
        bad(4, LAW + "   |places 4;");
        bad(4, "places 4;   |places 4;");
        bad(4, "places 4;law 3;|places");
        says("of one the least.");
        // a 61st: no word at all, a late one, a road too many
        bad(1, LAW.repeat(60) + "|lawn");
        bad(1, LAW.repeat(60) + "|;");
        bad(3, LAW.repeat(60) + "|places 4;");
        bad(3, ROAD.repeat(10) + LAW.repeat(50) + "|road 9");
        bad(3, "places 4;" + LAW.repeat(59) + "|places 4;");
    }

    // ---- promises 1 to 7 ----

    private static void theTape() {
        in("Promise 1");
        says("A LAND without CLAUSES, on DAY 0.");
        MendingRoads x = new MendingRoads();
        int[] told = {4, 0, 0, 0, 0, 9, 0};
        for (int i = 0; i < told.length; i++) due(told[i], x.told(i));
        check(all(new MendingRoads()).equals(all(of(""))), "not as a land without clauses is");
        in("Promise 2");
        says("Twenty bytes come on the TAPE, of each number the highest first: how many there are;");
        for (int i = 0; i < 20; i++) {
            // a sign that can't stand there, at each of the twenty bytes
            int[] n = {0x20202020, 0x20202020, 0x20202020, 0x20202020, 0x20202020};
            n[i / 4] ^= (0x20 ^ 0xff) << 24 - 8 * (i % 4);
            MendingRoads y = new MendingRoads();
            due(20, y.feed(n[0], n[1], n[2], n[3], n[4]));
            due(-9, y.land(20));
            due(i, y.fault());
        }
        MendingRoads z = new MendingRoads();
        due(20, z.feed(0x6c617720, 0x353b2020, 0x20202020, 0x20202020, 0x20202020));
        due(40, z.feed(0x6c617720, 0x363b2020, 0x20202020, 0x20202020, 0x20202020));
        due(40, z.count(2));
        due(0, z.land(26));
        due(6, z.told(5));
        says("NONE, doing nothing, if there would be more than 600.");
        MendingRoads full = new MendingRoads();
        due(600, feed(full, "law 3;" + " ".repeat(588) + "law 7;"));
        due(-1, full.feed(-1, -1, -1, -1, -1));
        due(-1, full.feed(0, 0, 0, 0, 0));
        due(600, full.count(2));
        due(0, full.land(600));
        due(7, full.told(5));
        due(20, full.feed(0, 0, 0, 0, 0));
        MendingRoads nearly = new MendingRoads();
        due(580, feed(nearly, " ".repeat(580)));
        due(600, nearly.feed(0, 0, 0, 0, 0));
        due(-1, nearly.feed(0, 0, 0, 0, 0));
        due(0, nearly.land(580));
    }

    private static void theLand() {
        in("Promise 3");
        says("The first n bytes of the TAPE (empty then) are the LAND (DAY 0, all whole, no ROW, no IMAGES): how many ROADS;");
        MendingRoads x = midst();
        due(20, x.count(2));
        due(0, x.land(6));
        due(7, x.told(5));
        due(0, x.count(2));
        MendingRoads fresh = of("law 7;");
        check(all(x).equals(all(fresh)), "something of the land before is left");
        MendingRoads y = midst();
        due(0, y.land(0));
        check(all(y).equals(all(new MendingRoads())), "something of the land before is left");
        // all whole: roads told anew have no wear of those before them
        MendingRoads z = of("road 0 1 5 9 30;new 0 1 1 0 30;going 0 1 127 9;wait 0 6;chance 0 1;wet 0;law 3;");
        z.run(0, 2);
        due(2, tell(z, "road 0 1 5 9 30;road 0 1 6 9 30;going 0 1 127 1;"));
        int[] told = {4, 2, 0, 1, 0, 9, 0};
        for (int i = 0; i < told.length; i++) due(told[i], z.told(i));
        for (int r = 0; r < 2; r++) {
            due(0, z.road(r, 5));
            due(9, z.road(r, 6));
        }
        due(8, z.going(0, 4));
        due(0, z.going(0, 5));
        due(5, z.day(0));
        due(-1, z.which(9));
        // as many roads as there are: none, one, ten
        due(0, tell(z, "law 3;"));
        due(1, tell(z, ROAD + NEW));
        due(10, tell(z, ROAD.repeat(10)));
        nothingOfFormerLands();
        says("or the FAULT less 10 (all stays).");
        // each with much that would change, ahead of the fault
        String much = "road 0 1 1 0 1;new 0 1 1 0 1;going 0 1 1 1;wet 5;law 11;";
        String[] faulty = {much + "x", much + "law 2;", much + ROAD.repeat(10), much + "places 3;"};
        for (int kind = 1; kind <= 4; kind++) {
            MendingRoads f = midst();
            due(-9, f.land(20));
            due(kind - 10, tell(f, faulty[kind - 1]));
            due(0, f.count(2));
            check(land(midst()).equals(land(f)), "a land with a fault changes something");
        }
        says("IllegalArgumentException: n is not 0 to the TAPE's bytes (it stays).");
        for (int n : new int[] {-1, 21, 600, Integer.MIN_VALUE, Integer.MAX_VALUE}) refuses(WRONG, w -> w.land(n));
        MendingRoads empty = new MendingRoads();
        refused(WRONG, () -> empty.land(1));
        refused(WRONG, () -> empty.land(-1));
        due(0, empty.land(0));
    }

    /** However many were told before, with a fault or without. */
    private static void nothingOfFormerLands() {
        String much = "places 3;law 3;" + ROAD + NEW + NEW + GOING + GOING + "wait 0 6;chance 0 1;wait 1 5;wet 5;wet 6;";
        String little = GOING + NEW + "wet 9;";
        MendingRoads x = new MendingRoads();
        for (int i = 0; i < 4; i++) {
            due(1, tell(x, much));
            int[] full = {3, 1, 2, 2, 2, 3, 0};
            for (int k = 0; k < full.length; k++) due(full[k], x.told(k));
            due(-9, tell(x, much + "x"));
            due(0, tell(x, little));
            int[] few = {4, 0, 1, 1, 1, 9, 0};
            for (int k = 0; k < few.length; k++) due(few[k], x.told(k));
            due(8, x.going(0, 4));
            due(0, x.going(0, 5));
        }
        check(all(of(little)).equals(all(x)), "something of the lands before is left");
        // as many of each as there can be, again and again
        String most = "places12;" + ROAD.repeat(10) + NEW.repeat(4) + GOING.repeat(14) + "wet1;wet2;wet3;wet4;wet5;wet6;wet7;wet8;";
        for (int i = 0; i < 3; i++) {
            due(10, tell(x, most));
            due(-7, tell(x, most + "wet1;"));
            due(0, tell(x, LAW.repeat(60)));
            due(-7, tell(x, LAW.repeat(61)));
        }
    }

    private static void faultAndTold() {
        in("Promise 4");
        says("The place of the FAULT of the latest land(); NONE without.");
        MendingRoads x = new MendingRoads();
        due(-1, x.fault());
        tell(x, "law 3;x");
        due(6, x.fault());
        due(6, x.fault());
        tell(x, "law 2;");
        due(4, x.fault());
        tell(x, "|");
        due(0, x.fault());
        tell(x, "law 3;");
        due(-1, x.fault());
        tell(x, " ".repeat(599) + "x");
        due(599, x.fault());
        tell(x, " ".repeat(594) + "law 33");
        due(598, x.fault());
        tell(x, " ".repeat(595) + "law 3");
        due(600, x.fault());
        x.land(0);
        due(-1, x.fault());
        in("Promise 5");
        says("0 PLACES, 1 ROADS, 2 new ones, 3 GOINGS, 4 wet DAYS, 5 N, 6 the DAY.");
        MendingRoads least = of("places 2;law 3;");
        int[] few = {2, 0, 0, 0, 0, 3, 0};
        for (int i = 0; i < few.length; i++) due(few[i], least.told(i));
        MendingRoads most = of("places 12;law11;" + ROAD.repeat(10) + NEW.repeat(4) + GOING.repeat(14) + "wet1;wet2;wet3;wet4;wet5;wet6;wet7;wet8;");
        int[] full = {12, 10, 4, 14, 8, 11, 0};
        for (int i = 0; i < full.length; i++) due(full[i], most.told(i));
        most.day(0);
        due(1, most.told(6));
        most.run(3, 366);
        due(367, most.told(6));
        says("IllegalArgumentException: another what (so below).");
        takes(0, 6, (w, what) -> w.told(what));
        takes(0, 7, (w, what) -> w.road(0, what));
        takes(0, 5, (w, what) -> w.going(0, what));
        takes(0, 3, (w, what) -> w.would(0, 1, what));
        takes(0, 3, (w, what) -> w.judge(what));
        takes(0, 3, (w, what) -> w.ever(what));
        takes(0, 2, (w, what) -> w.fewest(1, 1, what));
        takes(0, 1, (w, what) -> w.best(1, what));
        takes(0, 1, (w, what) -> w.toll(1, 1, what));
        takes(0, 2, (w, what) -> w.seed(0, 1, 1, what));
    }

    private static void roadAndGoing() {
        in("Promise 6");
        says("Of a ROAD: 0 A, 1 B, 2 L, 3 S, 4 M, 5 WEAR, 6 RESTED DAYS, 7 minutes now (NONE: past use).");
        MendingRoads x = of("places 12;road 0 11 99 9 30;road 11 0 1 0 1;going 0 11 127 1;law 3;");
        int[] first = {0, 11, 99, 9, 30, 0, 3, 99};
        int[] second = {11, 0, 1, 0, 1, 0, 3, 1};
        for (int i = 0; i < 8; i++) {
            due(first[i], x.road(0, i));
            due(second[i], x.road(1, i));
        }
        x.day(0);
        // just M: in use; one above: not
        due(1, x.road(1, 5));
        due(0, x.road(1, 6));
        due(1, x.road(1, 7));
        x.day(0);
        due(2, x.road(1, 5));
        due(-1, x.road(1, 7));
        x.day(0);
        due(1, x.road(1, 6));
        due(99 + 9, x.road(0, 7));
        says("IndexOutOfBoundsException: no such ROAD (so below).");
        for (int road : NO_ROADS) {
            refuses(NO_ROAD, w -> w.road(road, 0));
            refuses(NO_ROAD, w -> w.road(road, 8));
            refuses(NO_ROAD, w -> w.men(road, 1));
            refuses(NO_ROAD, w -> w.men(road, 0));
        }
        keeps(w -> w.road(3, 0));
        keeps(w -> w.men(3, 1));
        refused(NO_ROAD, () -> new MendingRoads().road(0, 0));
        in("Promise 7");
        says("Of a GOING: 0 P, 1 Q, 2 D, 3 W, 4 C, 5 H.");
        MendingRoads y = of("places 12;going 0 11 1 1;going 11 0 127 9;chance 0 1;wait 1 6;");
        int[] low = {0, 11, 1, 1, 1, 0};
        int[] high = {11, 0, 127, 9, 8, 6};
        for (int i = 0; i < 6; i++) {
            due(low[i], y.going(0, i));
            due(high[i], y.going(1, i));
        }
        says("NoSuchElementException: no such GOING (so below).");
        for (int going : NO_GOINGS) {
            refuses(NO_GOING, w -> w.going(going, 0));
            refuses(NO_GOING, w -> w.going(going, 6));
            refuses(NO_GOING, w -> w.way(going, 0));
            refuses(NO_GOING, w -> w.by(going, 0, 0));
            refuses(NO_GOING, w -> w.careless(going, 1));
            refuses(NO_GOING, w -> w.each(going, 1));
            refuses(NO_GOING, w -> w.hold(going, 1, 1));
            refuses(NO_GOING, w -> w.way(going, -1));
            refuses(NO_GOING, w -> w.careless(going, 0));
        }
        keeps(w -> w.going(2, 0));
        keeps(w -> w.careless(2, 1));
        keeps(w -> w.each(2, 1));
        keeps(w -> w.hold(2, 1, 1));
        refused(NO_GOING, () -> new MendingRoads().going(0, 0));
    }
}
