import java.io.IOException;
import java.nio.file.Files;
import java.nio.file.Path;
import java.util.LinkedHashMap;
import java.util.Map;
import java.util.function.Supplier;
import java.util.function.ToLongFunction;
import java.util.regex.Matcher;
import java.util.regex.Pattern;

/**
 * Tests that quote the document sentence by sentence. What is quoted is crossed out; a quote that is not in the
 * document, a quote without a check behind it, and words that nobody has quoted are failures each.
 */
abstract class Sentences extends Checks {
    private static final Path DOCUMENT = Path.of("../shared/DOC.md");
    private static final char CROSSED = '\u0001';

    private static final Map<String, StringBuilder> parts = new LinkedHashMap<>();
    private static String part = "";
    private static String sentence = "";
    private static int checksBefore = 0;

    // ---- quotes ----

    /** "==== 1" to "==== 4" of the terms, and "Promise 1" to "Promise 39", without their signatures. */
    private static void readDocument() {
        try {
            String all = Files.readString(DOCUMENT).replaceAll("```\\w*", " ").replaceAll("\\s+", " ");
            String terms = "==== 1. " + between(all, "## Terms ", "## Promise 1:");
            Matcher term = Pattern.compile("(==== \\d+)\\. (.*?)(?=$|==== \\d)").matcher(terms);
            while (term.find()) parts.put(term.group(1), new StringBuilder(term.group(2)));
            String promises = between(all, "## Terms ", "## Not promised");
            Matcher promise = Pattern.compile("## (Promise \\d+): \\w[\\w ]* `[^`]*`: (.*?)(?=$|## Promise)").matcher(promises);
            while (promise.find()) parts.put(promise.group(1), new StringBuilder(promise.group(2)));
        } catch (IOException e) {
            System.out.println(DOCUMENT + " can't be read: the quotes are not looked up");
        }
    }

    private static String between(String all, String from, String to) {
        int at = all.indexOf(from) + from.length();
        return all.substring(at, Math.max(at, all.indexOf(to)));
    }

    /** From here on quotes are of this part of the document. */
    static void in(String name) {
        if (parts.isEmpty()) readDocument();
        endSentence();
        sentence = "";
        part = name;
        where = name;
        check(parts.isEmpty() || parts.containsKey(name), "no such part of the document");
    }

    /** A sentence of the part; what follows checks it. */
    static void says(String words) {
        endSentence();
        sentence = words;
        where = part + " <" + words + ">";
        StringBuilder text = parts.get(part);
        if (text != null) {
            int at = text.indexOf(words);
            check(at >= 0, "the document does not say so");
            for (int i = 0; at >= 0 && i < words.length(); i++) text.setCharAt(at + i, CROSSED);
        }
        checksBefore = passed + failed;
    }

    private static void endSentence() {
        if (!sentence.isEmpty()) check(passed + failed > checksBefore, "a sentence without a check");
    }

    /** Nothing of these parts may be left unquoted. */
    static void endAll(String... names) {
        endSentence();
        check(parts.isEmpty() || parts.size() == 4 + 39, "the document has " + parts.keySet());
        for (String name : names) {
            where = name;
            for (String left : parts.getOrDefault(name, new StringBuilder()).toString().split(CROSSED + "+")) {
                check(!left.matches(".*\\w.*"), "nobody has quoted <" + left + ">");
            }
        }
        end();
    }

    // ---- texts with a fault, its place marked by | ----

    static void bad(int kind, String marked) {
        int place = marked.indexOf('|');
        String text = marked.substring(0, place) + marked.substring(place + 1);
        MendingRoads x = new MendingRoads();
        long answer = tell(x, text);
        long at = x.fault();
        check(answer == kind - 10 && at == place, "<" + marked + "> answered " + answer + " at " + at + ", due is " + (kind - 10) + " at " + place);
    }

    /** A number from the least to the most stands between these; one less and one more do not, nor such as wrap to it. */
    static void range(String ahead, int least, int most, String behind) {
        for (int n : new int[] {least, most}) {
            of(ahead + n + behind);
            of(ahead + "000" + n + behind);
            bad(2, ahead + "|" + (4294967296L + n) + behind);
            bad(2, ahead + "|" + new java.math.BigInteger("18446744073709551616").add(java.math.BigInteger.valueOf(n)) + behind);
        }
        if (least > 0) bad(2, ahead + "|" + (least - 1) + behind);
        bad(2, ahead + "|" + (most + 1) + behind);
        bad(2, ahead + "|" + "9".repeat(40) + behind);
        bad(1, ahead + "|-" + most + behind);
    }

    // ---- one land in the midst of its days, and all that can be seen of it ----

    /** Day 3; four roads, three goings, two new roads, a row of two days, an image with a row of one, a fault, a tape. */
    static MendingRoads midst() {
        MendingRoads x = of("places 5;law 4;road 0 1 5 2 6;road 1 2 4 1 9;road 0 2 12 0 3;road 2 3 7 3 8;new 0 3 9 1 5;new 1 3 6 0 2;"
            + "going 0 2 127 2;going 1 3 85 3;going 2 0 42 1;chance 0 5;wait 1 3;wait 2 6;wet 2;wet 6;");
        x.row(1);
        x.day(0);
        x.image();
        x.row(2);
        x.run(3, 2);
        tell(x, "law 5;x");
        feed(x, "law 7;law 8;");
        return x;
    }

    static MendingRoads midstWithoutRow() {
        MendingRoads x = midst();
        x.clear();
        return x;
    }

    private static void facts(MendingRoads x, StringBuilder to) {
        for (int i = 0; i < 6; i++) to.append(x.told(i)).append(' ');
        int roads = x.told(1);
        int goings = x.told(3);
        for (int r = 0; r < roads; r++) for (int i = 0; i < 5; i++) to.append(x.road(r, i)).append(' ');
        for (int g = 0; g < goings; g++) for (int i = 0; i < 6; i++) to.append(x.going(g, i)).append(' ');
        to.append('\n');
    }

    private static void state(MendingRoads x, StringBuilder to) {
        int roads = x.told(1);
        to.append(x.told(6)).append(' ');
        for (int r = 0; r < roads; r++) to.append(x.road(r, 5)).append(' ').append(x.road(r, 6)).append(' ');
        to.append(x.count(0)).append(' ').append(x.count(1)).append(' ');
        to.append(x.minutes()).append(' ').append(x.judge(1)).append(' ').append(x.judge(2));
        for (int days = 1; days <= 4; days++) to.append(' ').append(byTheRow(x, days));
        to.append(' ').append(x.seed(2, 20, 1, 0)).append(' ').append(x.fits(5, 3)).append(' ');
        to.append(x.told(2) > 0 ? x.more(0, 9) : 0).append(' ').append(x.would(3, 30, 3)).append('\n');
    }

    private static String byTheRow(MendingRoads x, int days) {
        return answer(() -> x.would(1, days, 0));
    }

    /** The land, its state, its row, as they are now and in each image, which are gone then. */
    static String land(MendingRoads x) {
        StringBuilder to = new StringBuilder();
        facts(x, to);
        state(x, to);
        for (int i = 0; i < 4; i++) {
            to.append(x.on()).append(' ');
            if (i < 3) state(x, to);
        }
        return to.toString();
    }

    /** The land, the fault, the tape; the object is used up then. */
    static String all(MendingRoads x) {
        StringBuilder to = new StringBuilder();
        to.append(x.fault()).append(' ').append(x.count(2)).append(' ').append(land(x));
        to.append(answer(() -> x.land(12))).append(' ').append(x.told(5)).append(' ').append(x.count(2));
        return to.toString();
    }

    /** The call throws this, and all is as if it had not been made. */
    static void refuses(Class<?> why, Supplier<MendingRoads> make, ToLongFunction<MendingRoads> call) {
        MendingRoads x = make.get();
        String got = answer(() -> call.applyAsLong(x));
        check(got.equals(why.getName()), got + ", due is " + why.getName());
        check(all(make.get()).equals(all(x)), "something is changed behind a refused call");
    }

    static void refuses(Class<?> why, ToLongFunction<MendingRoads> call) {
        refuses(why, Sentences::midst, call);
    }

    /** The call answers, and nothing stays changed. */
    static void keeps(ToLongFunction<MendingRoads> call) {
        MendingRoads x = midst();
        String got = answer(() -> call.applyAsLong(x));
        check(got.startsWith("answer"), "threw " + got);
        check(all(midst()).equals(all(x)), "something stays changed behind " + got);
    }

    interface Of {
        long answer(MendingRoads x, int number);
    }

    /** Least to most is taken, and nothing stays changed; one less, one more, and what is far away is refused. */
    static void takes(int least, int most, Of call) {
        for (int n : new int[] {least, most}) keeps(x -> call.answer(x, n));
        for (int n : new int[] {least - 1, most + 1, Integer.MIN_VALUE, Integer.MAX_VALUE}) refuses(WRONG, x -> call.answer(x, n));
    }

    static final int[] NO_GOINGS = {-1, 3, Integer.MIN_VALUE, Integer.MAX_VALUE};
    static final int[] NO_ROADS = {-1, 4, Integer.MIN_VALUE, Integer.MAX_VALUE};
}
