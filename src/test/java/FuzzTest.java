import java.lang.reflect.InvocationTargetException;
import java.lang.reflect.Method;
import java.util.ArrayList;
import java.util.Arrays;
import java.util.HashMap;
import java.util.List;
import java.util.Map;
import java.util.Random;

/** Runs of chosen and of random calls, on MendingRoads and on Oracle: both must answer alike. */
final class FuzzTest {
    private static final Map<String, Method> REAL = methods(MendingRoads.class);
    private static final Map<String, Method> MODEL = methods(Oracle.class);

    private final Random random;
    private final MendingRoads real = new MendingRoads();
    private final Oracle model = new Oracle();
    private final List<String> log = new ArrayList<>();
    private int calls = 0;

    private FuzzTest(long seed) {
        random = new Random(seed);
    }

    private static Map<String, Method> methods(Class<?> c) {
        Map<String, Method> all = new HashMap<>();
        for (Method m : c.getDeclaredMethods()) {
            if (java.lang.reflect.Modifier.isPublic(m.getModifiers())) all.put(m.getName(), m);
        }
        return all;
    }

    public static void main(String[] args) {
        int runs = args.length > 0 ? Integer.parseInt(args[0]) : 1500;
        long first = args.length > 1 ? Long.parseLong(args[1]) : 1;
        int made = 0;
        int wrong = 0;
        long calls = 0;
        for (long seed = first; seed < first + runs && wrong < 5; seed++) {
            FuzzTest t = new FuzzTest(seed);
            String found = t.go();
            made++;
            calls += t.calls;
            if (found != null) {
                wrong++;
                System.out.println("seed " + seed + ": " + found);
            }
        }
        System.out.println("FuzzTest: " + made + " runs of " + runs + ", " + calls + " calls");
        System.out.println((made - wrong) + " passed, " + wrong + " failed");
        if (wrong != 0) System.exit(1);
    }

    private static Object answer(Object on, Method m, Object[] with) {
        try {
            return ((Number) m.invoke(on, with)).longValue();
        } catch (InvocationTargetException e) {
            return "throws." + e.getCause().getClass().getSimpleName();
        } catch (IllegalAccessException e) {
            return e.toString();
        }
    }

    /** Null if both answer alike. */
    private String call(String name, long... with) {
        Method m = REAL.get(name);
        Object[] args = new Object[with.length];
        for (int i = 0; i < with.length; i++) {
            args[i] = m.getParameterTypes()[i] == long.class ? (Object) with[i] : (Object) (int) with[i];
        }
        Object got = answer(real, m, args);
        Object due = answer(model, MODEL.get(name), args);
        calls++;
        log.add(name + Arrays.toString(with) + " -> " + got);
        if (got.equals(due)) return null;
        return name + Arrays.toString(with) + " answered " + got + ", due is " + due + "; before: " + log;
    }

    private int below(int n) {
        return random.nextInt(n);
    }

    private String tell(String text) {
        StringBuilder padded = new StringBuilder(text);
        while (padded.length() % 20 != 0) padded.append((char) below(256));
        log.clear();
        log.add("text <" + text + ">");
        for (int i = 0; i < padded.length(); i += 20) {
            long[] numbers = new long[5];
            for (int j = 0; j < 20; j++) numbers[j / 4] = (int) (numbers[j / 4] << 8 | padded.charAt(i + j));
            String bad = call("feed", numbers);
            if (bad != null) return bad;
        }
        String bad = call("land", text.length());
        return bad != null ? bad : call("fault");
    }

    private String go() {
        String bad = null;
        for (int lands = 0; lands < 3 && bad == null; lands++) {
            String text = random.nextInt(3) > 0 ? new Texts(random).land() : new Texts(random).nearly();
            bad = tell(text);
            for (int i = 0; i < 60 && bad == null; i++) bad = anyCall();
        }
        return bad;
    }

    private int going() {
        return below(12) == 0 ? below(20) - 3 : below(Math.max(1, model.told.goings.size()));
    }

    private int aRoad() {
        return below(12) == 0 ? below(14) - 2 : below(Math.max(1, model.told.roads.size()));
    }

    private int days() {
        int dear = model.told.roads.size() > 7 ? 20 : 60;
        return below(15) == 0 ? new int[] {0, -1, 366, 367, 1}[below(5)] : 1 + below(dear);
    }

    private int shut() {
        return below(15) == 0 ? random.nextInt() >> below(31) : below(1 << model.told.roads.size()) & random.nextInt();
    }

    private int around(int least, int most) {
        return least - 1 + below(most - least + 3);
    }

    private String anyCall() {
        switch (below(44)) {
            case 0: return call("told", around(0, 6));
            case 1: case 2: return call("road", aRoad(), around(0, 7));
            case 3: return call("going", going(), around(0, 5));
            case 4: case 5: return call("way", going(), shut());
            case 6: case 7: return call("by", going(), shut(), around(0, 4));
            case 8: case 9: return call("shuts", around(0, 3));
            case 10: case 11: case 12: return call("day", shut());
            case 13: case 14: return call("run", around(0, 3), days());
            case 15: case 16: return call("would", around(0, 3), days(), around(0, 3));
            case 17: case 18: case 19: return call("row", shut());
            case 20: return below(3) > 0 ? call("minutes") : call("clear");
            case 21: case 22: return call("judge", around(0, 3));
            case 23: return call("minutes");
            case 24: case 25: return call("ever", around(0, 3));
            case 26: return call("fewest", 1 + below(20), 1 + below(99), around(0, 2));
            case 27: return below(10) == 0 ? lastsCall() : call("fewest", around(1, 99), around(1, 99), around(0, 2));
            case 28: return model.told.roads.size() > 4 && model.told.roads.size() <= 6 ? call("best", around(1, 1), around(0, 1)) : call("best", below(5), around(0, 1));
            case 29: return model.told.roads.size() > 3 && model.told.roads.size() <= 6 ? call("gap", below(2)) : call("gap", below(5));
            case 30: return call("toll", around(0, 20), days(), around(0, 1));
            case 31: return below(4) == 0 ? call("keep", below(12)) : null;
            case 32: return call("careless", going(), days());
            case 33: return call("each", going(), days());
            case 34: return call("hold", going(), below(8), days());
            case 35: return below(3) == 0 ? call("who", below(20)) : null;
            case 36: return call("more", around(0, 3), days());
            case 37: return call("which", days());
            case 38: return call("men", aRoad(), days());
            case 39: return call("beside", below(40));
            case 40: return call("law", around(3, 11), days());
            case 41: return call("other", below(40));
            case 42: return below(2) == 0 ? call("image") : call("fits", known(), around(0, 20));
            default: return below(3) == 0 ? call("on") : below(2) == 0 ? call("count", around(0, 2)) : call("seed", around(0, 3), days(), random.nextInt(), around(0, 2));
        }
    }

    private long known() {
        return random.nextInt(10) == 0 ? random.nextLong() : random.nextLong(3486784401L) >> below(33);
    }

    private String lastsCall() {
        int weight = 1 + below(12);
        return call("lasts", around(1, 3), weight, below(4 * weight + 2));
    }

    /** Texts of lands, right ones and such as have a fault here or there. */
    static final class Texts {
        private final Random random;
        private final int places;

        Texts(Random random) {
            this.random = random;
            this.places = 2 + random.nextInt(5 + random.nextInt(7));
        }

        private int below(int n) {
            return random.nextInt(n);
        }

        private String ends() {
            int a = below(places);
            int b = (a + 1 + below(places - 1)) % places;
            return a + " " + b;
        }

        private String aRoad(String word) {
            int most = below(4) == 0 ? 99 : 20;
            return word + " " + ends() + " " + (1 + below(most)) + " " + below(below(3) == 0 ? 10 : 3) + " " + (1 + below(30)) + ";";
        }

        String land() {
            StringBuilder s = new StringBuilder();
            s.append("places ").append(places).append(";");
            int roads = below(3) == 0 ? below(11) : 1 + below(6);
            int goings = 1 + below(below(2) == 0 ? 14 : 4);
            for (int i = 0; i < roads; i++) s.append(aRoad("road"));
            for (int i = 0; i < below(5); i++) s.append(aRoad("new"));
            for (int i = 0; i < goings; i++) {
                s.append("going ").append(ends()).append(' ').append(below(2) == 0 ? 127 : 1 + below(127)).append(' ').append(1 + below(below(3) == 0 ? 9 : 3)).append(';');
                if (below(3) == 0) s.append("chance ").append(i).append(' ').append(1 + below(8)).append(';');
                if (below(3) == 0) s.append("wait ").append(i).append(' ').append(below(7)).append(';');
            }
            for (int i = 0; i < below(4); i++) s.append("wet ").append(below(60)).append(';');
            if (below(2) == 0) s.append("law ").append(3 + below(9)).append(';');
            return s.length() > 600 ? s.substring(0, s.lastIndexOf(";", 599) + 1) : s.toString();
        }

        /** A right text with a sign changed, gone, put in, or the text cut; or many short clauses. */
        String nearly() {
            StringBuilder s = new StringBuilder(below(6) == 0 ? many() : land());
            int changes = 1 + below(2);
            for (int i = 0; i < changes && s.length() > 0; i++) {
                int at = below(s.length());
                String signs = "0123456789 ;;  aeglnoprstwz\u0000\u007f\u00e9";
                char sign = signs.charAt(below(signs.length()));
                switch (below(5)) {
                    case 0: s.setCharAt(at, sign); break;
                    case 1: s.deleteCharAt(at); break;
                    case 2: if (s.length() < 600) s.insert(at, sign); break;
                    case 3: if (below(3) == 0) s.setLength(at); break;
                    default: if (s.length() < 590) s.insert(s.indexOf(";", at) < 0 ? s.length() : s.indexOf(";", at) + 1, "places 3;"); break;
                }
            }
            return s.toString();
        }

        private String many() {
            StringBuilder s = new StringBuilder();
            String[] short_ = {"law5;", "road0 1 1 0 1;", "new 0 1 5 0 2;", "going 0 1 1 1;", "wet 7;", "wet " + below(9) + ";", " law 4 ;", "going 1 0 0127 009;"};
            String main = below(2) == 0 ? short_[0] : short_[below(short_.length)];
            while (s.length() < 580) s.append(below(12) == 0 ? short_[below(short_.length)] : main);
            return s.toString();
        }
    }
}
