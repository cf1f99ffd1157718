/** Promise 16: refuge. */
public final class Promise16Test {
    private static final int NONE = FathomNight.NONE;

    private Promise16Test() {
    }

    public static void main(String[] args) {
        Cases.run(Promise16Test.class, args);
    }

    private static void refuge(Telling t, FathomNight x, int k, int due, int unit) {
        t.due("due of " + k, x.refuge(0, 0, 0, k, false), due);
        t.due("unit of " + k, x.refuge(0, 0, 0, k, true), unit);
    }

    /** "he is WOKEN by an alarm .. at one UNIT: the least DUE of his by that" */
    static void p16TheLeastByOneAlarm(Telling t) {
        // Unwoken 24 - 5 and 54 - 5; woken at 10: 0 and 25; at 19: 19 and 0; at 15: 19 and 10.
        refuge(t, t.told("plain 0 0 2 30 3 60;", "mark 5;", "wait 10;sound;wait 10;sound;", null), 0, 19, 19);
    }

    /** "the UNIT, of several the first": 0, where nothing is due whatever he does, or nothing helps. */
    static void p16OfSeveralTheFirst(Telling t) {
        refuge(t, t.told("plain 1 0 0 30 3 60;", "", "wait 9;sound;", null), 0, 0, 0);
        refuge(t, t.told("plain 0 0 0 30 3 60;", "mark 60;", "wait 9;sound;", null), 0, 0, 0);
        refuge(t, t.told("plain 0 0 0 30 9 60;", "cap 1;", "wait 8;sound;wait 10;sound;", null), 0, 1, 0);
        refuge(t, t.told("plain 0 0 0 30 3 60;", "mark 9;", "wait 9;sound;", null), 0, 0, 6);
        refuge(t, t.told("plain 0 0 0 30 3 60;", "", "", null), 0, 0, 0);
    }

    /** "WOKEN at that UNIT": his DEPTH is 0 then, WINE or no WINE, POPPY or no POPPY. */
    static void p16WokenWhenHeIsSounded(Telling t) {
        refuge(t, t.told("plain 0 0 0 30 3 60;", "", "wait 9;sound;", null), 0, 0, 9);
        refuge(t, t.told("plain 0 0 0 30 3 60;wine 0 9;wine 0 5;poppy 0 0;", "", "wait 9;sound;", null), 0, 0, 9);
        refuge(t, t.told("plain 0 0 0 36 3 60;", "", "wait 35;sound;", null), 0, 0, 35);
    }

    /** "but not at the UNIT .. of being WOKEN": behind it WINE counts. */
    static void p16WineBehindTheAlarm(Telling t) {
        // Woken at 9: 0, then 3 + 3; woken at 10: 27 + 3 and 0.
        refuge(t, t.told("plain 0 0 0 30 3 60;wine 0 9;", "", "wait 9;sound;wait 1;sound;", null), 0, 6, 9);
    }

    /** "(if he is ASLEEP then": an alarm when he is up, or does not lie yet, changes nothing. */
    static void p16AwakeAtTheAlarm(Telling t) {
        refuge(t, t.told("plain 0 0 5 30 3 60;", "", "wait 6;sound;", null), 0, 0, 6);
        refuge(t, t.told("plain 0 0 5 30 3 60;", "mark 3;", "wait 6;sound;", null), 0, 0, 0);
        refuge(t, t.told("plain 0 0 5 7 3 60;", "", "wait 9;sound;", null), 0, 0, 0);
    }

    /** "besides": CATS wake him as they did. */
    static void p16BesidesTheCats(Telling t) {
        FathomNight x = t.told("houses 2;door 0 1 4;cat 0;plain 0 0 0 30 2 60;", "mark 3;", "go 1;go 0;sound;", null);
        t.due("the cat woke him at 4", x.state(0, 0, 0, 3, 30), 8);
        refuge(t, x, 0, 0, 7);
    }

    /** "as READ of him if nobody STANDS in for him": an alarm helps no RICH one who is READ by another one. */
    static void p16ReadByAnotherOne(Telling t) {
        FathomNight x = t.told("rich 0 0 0 20 5 60;plain 0 1 2 20 1 60;stands 1 0;", "", "wait 10;sound;", null);
        refuge(t, x, 0, 8, 0);
        refuge(t, x, 1, 0, 10);
        refuge(t, t.told("rich 0 0 0 20 5 60;", "", "wait 10;sound;", null), 0, 0, 10);
    }

    /** "all others are READ as they were": also he for whom he STANDS in, in a shared BED. */
    static void p16AllOthersAsTheyWere(Telling t) {
        FathomNight x = t.told("plain 0 0 0 30 3 60;plain 0 0 0 30 1 60;", "shared;", "wait 8;sound;", null);
        refuge(t, x, 0, 8, 6);
        refuge(t, x, 1, 24, 0);
        x = t.told("plain 0 0 0 36 3 60;plain 0 0 34 36 1 60;", "shared;", "wait 35;sound;", null);
        refuge(t, x, 0, 1, 35);
        refuge(t, x, 1, 60, 0);
        x = t.told("rich 0 0 0 30 3 60;plain 0 0 0 30 1 60;stands 1 0;", "shared;", "wait 8;sound;", null);
        refuge(t, x, 1, 8, 0);
        x = t.told("plain 0 0 0 30 3 60;plain 0 1 0 30 1 60;", "shared;", "wait 8;sound;", null);
        refuge(t, x, 0, 0, 8);
    }

    /** "DUE": by the CAP; by a FINE that no alarm takes off; 0 in a FREE HOUSE. */
    static void p16Due(Telling t) {
        String street = "plain 0 0 0 30 9 60;poppy 0 0;";
        refuge(t, t.told(street, "fine 7;", "wait 8;sound;", null), 0, 7, 8);
        refuge(t, t.told(street, "fine 7;cap 6;", "wait 8;sound;", null), 0, 6, 0);
        refuge(t, t.told(street, "fine 7;free 0;", "wait 8;sound;", null), 0, 0, 0);
        refuge(t, t.told(street, "fine 7;rate 2 2;", "wait 8;sound;sound;wait 1;sound;", null), 0, 3 * 7 + 9 * 2, 8);
    }

    /** "but CHILDREN": nothing is due of them. */
    static void p16AChild(Telling t) {
        refuge(t, t.told("child 0 0 0 30 3 60;", "", "wait 10;sound;", null), 0, 0, 0);
    }

    /** "(Of a ROUND up to STOP.)" */
    static void p16UpToStop(Telling t) {
        refuge(t, t.told("plain 0 0 0 30 3 60;", "", "wait 10;sound;go 1;wait 5;sound;", null), 0, 0, 10);
    }

    /** "NONE: there is none such (of any)": a SLEEPER. */
    static void p16NoSuchSleeper(Telling t) {
        FathomNight x = t.told("plain 0 0 0 30 3 60;plain 0 0 0 30 3 60;", "", "wait 10;sound;", null);
        refuge(t, x, 1, 0, 10);
        refuge(t, x, 2, NONE, NONE);
        refuge(t, x, 9, NONE, NONE);
        refuge(t, x, -1, NONE, NONE);
        for (int k : Telling.FAR_OFF) {
            refuge(t, x, k, NONE, NONE);
        }
    }

    /** "NONE: there is none such (of any)": a STREET, LAW, ROUND. */
    static void p16NoneSuch(Telling t) {
        FathomNight x = t.told("plain 0 0 0 30 3 60;", "", "wait 10;sound;", null);
        for (int far : new int[] {1, -1, 2, Integer.MAX_VALUE, Integer.MIN_VALUE}) {
            t.due("street " + far, x.refuge(far, 0, 0, 0, false), NONE);
            t.due("law " + far, x.refuge(0, far, 0, 0, false), NONE);
            t.due("round " + far, x.refuge(0, 0, far, 0, true), NONE);
        }
    }
}
