import java.lang.reflect.InvocationTargetException;
import java.lang.reflect.Method;
import java.util.Arrays;
import java.util.Map;
import java.util.Random;
import java.util.TreeMap;

/**
 * Promises 4, 6 to 32, 34 and 35: an object that was told two of each sort, with others told and
 * struck between, answers of any of them, in any order of calls, as a new object does that was told
 * those alone and is asked nothing else.
 */
public final class TwoOfEachTest {
    private static final Telling T = new Telling();
    private static final int WORLDS = 400;
    /** Of the 512 calls of an object; to leave and come back takes at most 34. */
    private static final int CALLS = 475;

    /** What each call takes: a STREET, LAW, ROUND, CATCH (S, L, R, C), a number (n), a boolean (b). */
    private static final Map<String, String> TAKES = new TreeMap<>(Map.ofEntries(
            Map.entry("street", "Sn"), Map.entry("sleeper", "Snn"), Map.entry("wine", "Snn"), Map.entry("depth", "Snn"),
            Map.entry("law", "Ln"), Map.entry("act", "Rnn"), Map.entry("stop", "SR"), Map.entry("state", "SLRnn"),
            Map.entry("hours", "SRn"), Map.entry("seven", "SLRn"), Map.entry("refuge", "SLRnb"), Map.entry("sold", "SLn"),
            Map.entry("quick", "Snn"), Map.entry("told", "Cn"), Map.entry("went", "SLCnn"), Map.entry("soonest", "SLCn"),
            Map.entry("cats", "Sb"), Map.entry("standins", "SLRb"), Map.entry("arrears", "SLRnn"), Map.entry("odds", "SLnb"),
            Map.entry("drawn", "SLRnnn"), Map.entry("loud", "Snb"), Map.entry("calm", "SL"), Map.entry("paid", "SLRnb"),
            Map.entry("twice", "SLRnb"), Map.entry("share", "SLRnb"), Map.entry("trip", "Sn")));
    private static final String SORTS = "SLRC";
    private static final Map<String, Integer> TOLD_SO = new TreeMap<>();

    private final Random dice;
    private final String at;
    private final FathomNight x = new FathomNight();
    private final String[][] texts = new String[4][2];
    private int calls = 0;

    private TwoOfEachTest(int world) {
        dice = new Random(world * 31L + 5);
        at = "world " + world + ": ";
        ByPlainWaysTest.roll(world * 131L + 7);
        for (int i = 0; i < 2; i++) {
            texts[0][i] = ByPlainWaysTest.streetText(1 + dice.nextInt(5), dice.nextBoolean() ? 5 : 9);
            Plainly.Street s = Plainly.read(0, texts[0][i]).street;
            texts[1][i] = ByPlainWaysTest.lawText();
            texts[2][i] = ByPlainWaysTest.roundText(s);
            texts[3][i] = ByPlainWaysTest.catchText(s.sleepers.size());
        }
    }

    public static void main(String[] args) throws ReflectiveOperationException {
        for (int world = 0; world < WORLDS && T.wrong() == 0; world++) {
            new TwoOfEachTest(world).live();
        }
        for (String name : TAKES.keySet()) {
            T.due(name + " answered something often", TOLD_SO.getOrDefault(name, 0) > WORLDS / 4, true);
        }
        T.close("TwoOfEachTest");
    }

    private void live() throws ReflectiveOperationException {
        String[] names = TAKES.keySet().toArray(new String[0]);
        tellAll();
        while (calls < CALLS) {
            if (dice.nextInt(15) == 0) {
                leaveAndComeBack();
            }
            ask(names[dice.nextInt(names.length)]);
        }
    }

    private int tell(int sort, int place, String text) {
        calls += (text.length() + 19) / 20 + 2;
        return Telling.tell(x, sort, place, text);
    }

    /** Some places have another text first, which the later one strikes. */
    private void tellAll() {
        for (int i = 0; i < 2; i++) {
            for (int sort = 0; sort < 4; sort++) {
                boolean struck = dice.nextBoolean();
                T.due(at + "text", tell(sort, -1, texts[sort][struck ? 1 - i : i]), i);
                if (struck) {
                    T.due(at + "text again", tell(sort, i, texts[sort][i]), i);
                }
            }
        }
    }

    /** Takes an image, strikes something, and comes back to the image. */
    private void leaveAndComeBack() {
        int k = dice.nextInt(3);
        int sort = dice.nextInt(4);
        int place = dice.nextInt(2);
        calls += 2;
        T.due(at + "image", x.image(k), true);
        T.due(at + "struck", tell(sort, place, dice.nextBoolean() ? "" : texts[sort][1 - place]), place);
        T.due(at + "again", x.again(k), true);
    }

    private void ask(String name) throws ReflectiveOperationException {
        Method method = methodOf(name);
        String takes = TAKES.get(name);
        Object[] ofMany = new Object[takes.length()];
        Object[] ofOne = new Object[takes.length()];
        int[] which = new int[4];
        for (int i = 0; i < takes.length(); i++) {
            int sort = SORTS.indexOf(takes.charAt(i));
            if (sort >= 0) {
                which[sort] = dice.nextInt(2);
                ofMany[i] = which[sort];
                ofOne[i] = 0;
            } else {
                ofMany[i] = takes.charAt(i) == 'b' ? (Object) dice.nextBoolean() : number();
                ofOne[i] = ofMany[i];
            }
        }
        FathomNight alone = new FathomNight();
        for (int sort = 0; sort < 4; sort++) {
            if (takes.indexOf(SORTS.charAt(sort)) >= 0) {
                Telling.tell(alone, sort, -1, texts[sort][which[sort]]);
            }
        }
        long due = answer(alone, method, ofOne);
        if (due >= 0) {
            TOLD_SO.merge(name, 1, Integer::sum);
        }
        calls++;
        T.due(at + name + Arrays.toString(ofMany), answer(x, method, ofMany), due);
    }

    private int number() {
        int die = dice.nextInt(10);
        return die < 5 ? dice.nextInt(4) : die < 8 ? 10 + dice.nextInt(3) : dice.nextInt(42) - 1;
    }

    private static Method methodOf(String name) {
        for (Method method : FathomNight.class.getDeclaredMethods()) {
            if (method.getName().equals(name)) {
                return method;
            }
        }
        throw new IllegalStateException(name);
    }

    private static long answer(FathomNight of, Method method, Object[] given)
            throws IllegalAccessException, InvocationTargetException {
        return ((Number) method.invoke(of, given)).longValue();
    }
}
