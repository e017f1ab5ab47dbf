import java.lang.reflect.InvocationTargetException;
import java.lang.reflect.Method;
import java.lang.reflect.Modifier;
import java.util.List;
import java.util.Random;
import java.util.function.Supplier;

/** Whatever the arguments and the state: a call answers, or throws what the document's face names for it, changing nothing. */
final class ExtremesTest extends Sentences {
    private static final long[] NUMBERS = {Integer.MIN_VALUE, Integer.MIN_VALUE + 1, -1000, -2, -1, 0, 1, 2, 3, 4, 9, 10, 15, 20, 99, 366, 367,
        1023, 1024, 1 << 30, Integer.MAX_VALUE - 1, Integer.MAX_VALUE};
    /** What may change the object when it answers. */
    private static final List<String> DEEDS = List.of("feed", "land", "day", "run", "row", "clear", "image", "on");
    /** With what is asked to see all, fewer than the 512 calls that are promised. */
    private static final int TRIES = 90;

    public static void main(String[] args) throws IllegalAccessException {
        List<Supplier<MendingRoads>> lands = List.of(MendingRoads::new, Sentences::midst, Sentences::midstWithoutRow, ExtremesTest::full);
        for (Method m : MendingRoads.class.getDeclaredMethods()) {
            if (!Modifier.isPublic(m.getModifiers())) continue;
            where = m.getName();
            for (Supplier<MendingRoads> land : lands) tryOut(m, land);
        }
        lastCalls();
        end();
    }

    /** As much of all as there can be in 600 bytes. */
    private static MendingRoads full() {
        MendingRoads x = of("places12;law3;" + "road0 1 99 9 30;".repeat(8) + "road11 0 1 0 1;".repeat(2) + "new0 1 1 9 30;".repeat(4)
            + "going0 1 127 9;".repeat(7) + "going0 11 85 1;".repeat(7) + "wet0;wet1;wet2;wet3;wet9;wet8;wet7;wet6;"
            + "wait0 6;wait13 6;chance1 1;");
        for (int i = 0; i < 30; i++) x.row(i * 33);
        for (int i = 0; i < 3; i++) x.image();
        feed(x, " ".repeat(600));
        x.run(1, 40);
        return x;
    }

    /** An object answers till its 512th call, here behind more than 500 years. */
    private static void lastCalls() {
        where = "512 calls";
        String text = "law 3;road 0 1 5 0 30;going 0 1 1 1;";
        MendingRoads x = new MendingRoads();
        feed(x, text);
        due(1, x.land(text.length()));
        int calls = 3;
        int days = 0;
        while (calls < 511) {
            int firstDays = (days + 366 + 6) / 7 - (days + 6) / 7;
            due(5 * firstDays, x.run(0, 366));
            days += 366;
            calls++;
        }
        due(days, x.told(6));
    }

    private static void tryOut(Method m, Supplier<MendingRoads> land) throws IllegalAccessException {
        Random random = new Random(m.getName().hashCode());
        int count = m.getParameterCount();
        MendingRoads asked = land.get();
        boolean isDeed = DEEDS.contains(m.getName());
        String wrong = "";
        for (int i = 0; i < (count == 0 ? 1 : TRIES); i++) {
            Object[] with = new Object[count];
            for (int k = 0; k < count; k++) {
                long n = NUMBERS[random.nextInt(NUMBERS.length)];
                if (m.getParameterTypes()[k] == long.class) with[k] = random.nextBoolean() ? n : n << 31;
                else with[k] = (int) n;
            }
            MendingRoads on = isDeed ? land.get() : asked;
            try {
                m.invoke(on, with);
            } catch (InvocationTargetException e) {
                boolean named = false;
                for (Class<?> c : m.getExceptionTypes()) named |= c == e.getCause().getClass();
                if (!named) wrong += java.util.Arrays.toString(with) + " threw " + e.getCause() + "; ";
            }
        }
        check(wrong.isEmpty(), wrong);
        // answers, refusals and all: what only asks has left the object as it was
        if (!isDeed) check(all(asked).equals(all(land.get())), "something stays changed");
    }
}
