import java.lang.management.ManagementFactory;
import java.lang.reflect.InvocationTargetException;
import java.lang.reflect.Method;
import java.lang.reflect.Modifier;
import java.util.ArrayList;
import java.util.Arrays;
import java.util.Comparator;
import java.util.List;
import java.util.Random;

/** No call ever throws, whatever it is given in whatever state; and none of them makes much that stays. */
public final class WildCallsTest {
    private static final Telling T = new Telling();
    private static final int[] WILD = {-1, 0, 1, 2, 3, 4, 7, 8, 9, 10, 11, 19, 20, 30, 35, 36, 39, 40, 73, 74, 99, 600,
        -2, -9, 9999, 1 << 30, Integer.MAX_VALUE, Integer.MIN_VALUE};
    private static final String[][] TEXTS = {
        {"", "houses 8;door 0 1 1;door 1 2 9;cat 0;cat 1;cat 7;rich 0 0 0 36 9 60;plain 0 0 3 30 2 40;stands 1 0;wine 1 29;",
            "houses 1;child 0 0 0 36 9 60;", "plain 0 0 0 36 9 60;".repeat(9) + "wine 8 35;".repeat(8),
            "rich 3 3 35 36 1 0;poppy 0 35;wine 0 35;", "houses", "cat 4;"},
        {"", "mark 60;shared;free 7;", "cap 1;fine 99;shared;rate 8 9;rate 0 0;", "rate"},
        {"", "begin 7 35;sound;go 0;", "sound;go 1;sound;wait 3;sound;go 0;sound;wait 30;sound;", "go 9;",
            "sound;".repeat(40), "begin 3 35;sound;"},
        {"", "caught 0;quiet 1;", "caught 8;caught 7;", "caught 0;".repeat(8), "quiet;"}};

    private WildCallsTest() {
    }

    public static void main(String[] args) throws IllegalAccessException {
        Random dice = new Random(99);
        List<Method> face = face();
        T.due("the face has 34 methods", face.size(), 34);
        for (int i = 0; i < 400 && T.wrong() == 0; i++) {
            FathomNight x = new FathomNight();
            for (int j = dice.nextInt(12); j > 0; j--) {
                int sort = dice.nextInt(4);
                Telling.tell(x, sort, dice.nextInt(2) - 1, TEXTS[sort][dice.nextInt(TEXTS[sort].length)]);
            }
            for (int j = 0; j < 450; j++) {
                call(x, face.get(dice.nextInt(face.size())), dice);
            }
        }
        room();
        T.close("WildCallsTest");
    }

    private static List<Method> face() {
        List<Method> face = new ArrayList<>();
        for (Method m : FathomNight.class.getDeclaredMethods()) {
            if (Modifier.isPublic(m.getModifiers())) {
                face.add(m);
            }
        }
        face.sort(Comparator.comparing(Method::getName));
        return face;
    }

    private static void call(FathomNight x, Method m, Random dice) throws IllegalAccessException {
        Class<?>[] types = m.getParameterTypes();
        Object[] given = new Object[types.length];
        boolean tame = dice.nextInt(3) > 0;
        for (int i = 0; i < given.length; i++) {
            given[i] = types[i] == boolean.class
                    ? (Object) dice.nextBoolean() : tame ? dice.nextInt(3) - dice.nextInt(2) : WILD[dice.nextInt(WILD.length)];
        }
        String told = m.getName() + Arrays.toString(given);
        try {
            m.invoke(x, given);
            T.due(told, 0, 0);
        } catch (InvocationTargetException e) {
            T.due(told + " threw " + e.getCause(), 1, 0);
        }
    }

    /** A whole life of dear calls makes rows for its object and its images, and no more. */
    private static void room() {
        com.sun.management.ThreadMXBean threads = (com.sun.management.ThreadMXBean) ManagementFactory.getThreadMXBean();
        long least = Long.MAX_VALUE;
        for (int i = 0; i < 3; i++) {
            long had = threads.getCurrentThreadAllocatedBytes();
            dearLife();
            least = Math.min(least, threads.getCurrentThreadAllocatedBytes() - had);
        }
        System.out.println("a life of 500 dear calls takes " + least + " bytes");
        T.due("a life takes less than 100,000 bytes", least < 100000, true);
    }

    private static void dearLife() {
        FathomNight x = new FathomNight();
        Telling.tell(x, 0, -1, "houses 3;door 0 1 1;door 1 2 1;cat 1;rich 0 0 0 30 2 60;plain 0 0 0 30 1 60;wine 0 3;");
        Telling.tell(x, 1, -1, "mark 3;shared;");
        Telling.tell(x, 2, -1, "sound;wait 3;sound;go 1;sound;");
        Telling.tell(x, 3, -1, "caught 0;");
        for (int i = 0; i < 40; i++) {
            x.image(i % 3);
            x.again(i % 3);
            x.seven(0, 0, 0, 0);
            x.twice(0, 0, 0, 0, true);
            x.standins(0, 0, 0, true);
            x.drawn(0, 0, 0, i, 30, 0);
            x.went(0, 0, 0, 7, -1);
            x.sold(0, 0, 0);
            x.trip(0, 0);
            x.state(0, 0, 0, 5, 4);
            x.text(0, 0);
            x.again(i % 3);
        }
    }
}
