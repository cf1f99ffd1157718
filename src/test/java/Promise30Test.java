/** Promise 30: twice. */
public final class Promise30Test {
    private static final int NONE = FathomNight.NONE;

    private Promise30Test() {
    }

    public static void main(String[] args) {
        Cases.run(Promise30Test.class, args);
    }

    private static void twice(Telling t, FathomNight x, int k, int due, int units) {
        t.due("due of " + k, x.twice(0, 0, 0, k, false), due);
        t.due("units of " + k, x.twice(0, 0, 0, k, true), units);
    }

    /** "by two alarms at two UNITS .. each of which wakes him": 36 times the lesser, and the other one. */
    static void p30TwoAlarms(Telling t) {
        twice(t, t.told("plain 0 0 2 30 3 60;", "mark 5;", "wait 10;sound;wait 10;sound;", null), 0, 0, 9 * 36 + 19);
        twice(t, t.told("plain 0 0 0 36 9 60;", "", "wait 1;sound;wait 34;sound;", null), 0, 0, 36 + 35);
        // Three soundings: the last two are next to each other.
        twice(t, t.told("plain 0 0 0 36 3 60;", "", "wait 9;sound;wait 9;sound;wait 1;sound;", null), 0, 3, 9 * 36 + 18);
    }

    /** "(or one twice)": UNIT 0 twice is the least of all numbers, where nothing helps or nothing is due. */
    static void p30OneTwice(Telling t) {
        twice(t, t.told("plain 1 0 2 30 3 60;", "", "wait 10;sound;", null), 0, 0, 0);
        twice(t, t.told("plain 0 0 2 30 3 60;", "mark 60;", "wait 10;sound;", null), 0, 0, 0);
        twice(t, t.told("plain 0 0 0 30 9 60;", "cap 1;", "wait 8;sound;wait 9;sound;wait 9;sound;", null), 0, 1, 0);
        twice(t, t.told("plain 0 0 0 30 9 60;", "", "sound;", null), 0, 0, 0);
    }

    /** "of several the least number": where one alarm is enough, it is with UNIT 0. */
    static void p30TheLeastNumber(Telling t) {
        twice(t, t.told("plain 0 0 2 30 3 60;", "mark 5;", "wait 10;sound;", null), 0, 0, 9);
        twice(t, t.told("plain 0 0 34 36 9 60;", "", "wait 35;sound;", null), 0, 0, 35);
        twice(t, t.told("plain 0 0 0 36 1 60;", "", "wait 1;sound;wait 1;sound;", null), 0, 0, 36 + 2);
    }

    /** "if he is ASLEEP then": an alarm when he is awake changes nothing. */
    static void p30AwakeAtTheAlarm(Telling t) {
        twice(t, t.told("plain 0 0 5 30 3 60;", "", "wait 6;sound;", null), 0, 0, 6);
        twice(t, t.told("plain 0 0 5 7 3 60;", "", "wait 6;sound;wait 1;sound;", null), 0, 0, 6);
    }

    /** "not at the UNIT .. of being WOKEN": his DEPTH is 0 then, whatever he drank. */
    static void p30WokenWhenHeIsSounded(Telling t) {
        String street = "plain 0 0 0 30 3 60;wine 0 9;wine 0 20;poppy 0 0;";
        twice(t, t.told(street, "", "wait 9;sound;wait 11;sound;", null), 0, 0, 9 * 36 + 20);
    }

    /** "as REFUGE": CATS wake him besides; he may be READ by another one; others are READ as they were. */
    static void p30AsRefuge(Telling t) {
        FathomNight x = t.told("houses 2;door 0 1 4;cat 0;plain 0 0 0 30 2 60;", "mark 3;", "go 1;go 0;sound;wait 9;sound;", null);
        twice(t, x, 0, 0, 7 * 36 + 16);
        x = t.told("rich 0 0 0 20 5 60;plain 0 1 2 20 1 60;stands 1 0;", "", "wait 10;sound;", null);
        twice(t, x, 0, 8, 0);
        twice(t, x, 1, 0, 10);
        x = t.told("rich 0 0 0 30 3 60;plain 0 0 0 30 1 60;stands 1 0;", "shared;", "wait 8;sound;wait 1;sound;", null);
        twice(t, x, 1, 8 + 9, 0);
        x = t.told("plain 0 0 0 30 9 60;poppy 0 0;", "fine 7;", "wait 8;sound;wait 1;sound;", null);
        twice(t, x, 0, 14, 8 * 36 + 9);
    }

    /** "but CHILDREN": nothing is due of them. */
    static void p30AChild(Telling t) {
        twice(t, t.told("child 0 0 0 30 3 60;", "", "wait 10;sound;", null), 0, 0, 0);
    }

    /** "as REFUGE": of a ROUND up to STOP. */
    static void p30UpToStop(Telling t) {
        twice(t, t.told("plain 0 0 0 36 3 60;", "", "wait 9;sound;wait 9;sound;go 1;wait 9;sound;", null), 0, 0, 9 * 36 + 18);
        twice(t, t.told("plain 0 0 0 36 3 60;", "", "begin 7 9;sound;", null), 0, 0, 0);
    }

    /** "NONE: there is none such (of any)": a SLEEPER. */
    static void p30NoSuchSleeper(Telling t) {
        FathomNight x = t.told("plain 0 0 0 30 3 60;plain 0 0 0 30 3 60;", "", "wait 10;sound;", null);
        twice(t, x, 1, 0, 10);
        for (int k : new int[] {2, 9, -1, Integer.MAX_VALUE, Integer.MIN_VALUE}) {
            twice(t, x, k, NONE, NONE);
        }
    }

    /** "NONE: there is none such (of any)": a STREET, LAW, ROUND. */
    static void p30NoneSuch(Telling t) {
        FathomNight x = t.told("plain 0 0 0 30 3 60;", "", "wait 10;sound;", null);
        for (int far : new int[] {1, -1, 2, Integer.MAX_VALUE, Integer.MIN_VALUE}) {
            for (boolean units : new boolean[] {false, true}) {
                t.due("street " + far, x.twice(far, 0, 0, 0, units), NONE);
                t.due("law " + far, x.twice(0, far, 0, 0, units), NONE);
                t.due("round " + far, x.twice(0, 0, far, 0, units), NONE);
            }
        }
    }
}
