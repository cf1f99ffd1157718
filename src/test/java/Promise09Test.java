/** Promise 9: depth; with ASLEEP and DEPTH of Term 2, of those who are not woken. */
public final class Promise09Test {
    private static final int NONE = FathomNight.NONE;

    private Promise09Test() {
    }

    public static void main(String[] args) {
        Cases.run(Promise09Test.class, args);
    }

    /** Looks at DEPTHS of SLEEPER 0 from a UNIT on. */
    private static void depths(Telling t, String street, int from, int... due) {
        FathomNight x = t.told(street, null, null, null);
        for (int i = 0; i < due.length; i++) {
            t.due("depth at " + (from + i) + " of " + street, x.depth(0, 0, from + i), due[i]);
        }
    }

    /** "He is ASLEEP at UNITS from LIES on": NONE ahead of it, 0 at it. */
    static void p09AsleepFromLiesOn(Telling t) {
        depths(t, "plain 0 0 3 20 4 60;", 0, NONE, NONE, NONE, 0, 4, 8);
        depths(t, "plain 0 0 0 20 4 60;", 0, 0, 4);
        depths(t, "plain 0 0 35 36 4 60;", 34, NONE, 0);
    }

    /** "ahead of the one at which he gets up": NONE at it and behind it. */
    static void p09AwakeFromRisesOn(Telling t) {
        depths(t, "plain 0 0 3 6 4 60;", 3, 0, 4, 8, NONE, NONE, NONE);
        depths(t, "plain 0 0 0 1 4 60;", 0, 0, NONE);
        depths(t, "plain 0 0 32 36 4 60;", 32, 0, 4, 8, 12);
        depths(t, "plain 0 0 32 35 4 60;", 32, 0, 4, 8, NONE);
    }

    /** "a SLEEPER gets up .. two UNITS later": he is ASLEEP till then. */
    static void p09AsleepTillLate(Telling t) {
        depths(t, "plain 0 0 0 20 1 60;wine 0 12;", 16, 19, 20, 18, 19, 20, 21, NONE);
        depths(t, "plain 0 0 0 20 1 60;wine 0 11;", 16, 19, 17, 18, 19, NONE);
        depths(t, "plain 0 0 32 35 1 60;wine 0 34;", 33, 1, 2 + 3, 3 + 3);
    }

    /** "SINK times the UNITS since LIES": 1 and 9. */
    static void p09Sinks(Telling t) {
        depths(t, "plain 0 0 0 36 1 60;", 0, 0, 1, 2, 3);
        depths(t, "plain 0 0 0 36 9 60;", 0, 0, 9, 18, 27);
    }

    /** "DEEP at most": reached, and gone beyond. */
    static void p09DeepAtMost(Telling t) {
        depths(t, "plain 0 0 0 36 4 12;", 0, 0, 4, 8, 12, 12, 12);
        depths(t, "plain 0 0 0 36 5 12;", 0, 0, 5, 10, 12, 12);
        depths(t, "plain 0 0 0 36 9 0;", 0, 0, 0, 0);
        depths(t, "plain 0 0 0 36 9 60;", 6, 54, 60, 60);
    }

    /** "(9 more, if he took POPPY at that UNIT or ahead)" */
    static void p09NineMoreByPoppy(Telling t) {
        depths(t, "plain 0 0 0 36 9 10;poppy 0 3;", 0, 0, 9, 10, 19, 19, 19);
        depths(t, "plain 0 0 0 36 9 10;poppy 0 0;", 0, 0, 9, 18, 19, 19);
        depths(t, "plain 0 0 5 36 9 10;poppy 0 2;", 5, 0, 9, 18, 19);
        depths(t, "plain 0 0 0 36 9 10;poppy 0 35;", 33, 10, 10, 19);
        depths(t, "plain 0 0 0 36 1 60;poppy 0 0;", 33, 33, 34, 35);
    }

    /** "3 more for each WINE that he drank at that UNIT or at most 5 ahead of it" */
    static void p09ThreeMoreByWine(Telling t) {
        depths(t, "plain 0 0 0 36 1 2;wine 0 6;", 4, 2, 2, 5, 5, 5, 5, 5, 5, 2, 2);
        depths(t, "plain 0 0 0 36 1 2;wine 0 35;", 33, 2, 2, 5);
        depths(t, "plain 0 0 4 36 1 0;wine 0 0;", 4, 0, 3, 0);
    }

    /** "3 more for each WINE": of one UNIT, of several, above DEEP. */
    static void p09EachWine(Telling t) {
        depths(t, "plain 0 0 0 36 1 2;wine 0 6;wine 0 6;wine 0 8;", 5, 2, 8, 8, 11, 11, 11, 11, 5, 5, 2);
        depths(t, "plain 0 0 0 36 9 60;poppy 0 0;" + "wine 0 20;".repeat(8), 19, 69, 69 + 24, 69 + 24);
        depths(t, "plain 0 0 0 36 1 2;plain 0 0 0 36 1 2;wine 1 6;", 6, 2);
    }

    /** "but not at the UNIT of LIES": WINE counts behind it. */
    static void p09NoWineAtLies(Telling t) {
        depths(t, "plain 0 0 3 36 2 60;wine 0 3;", 3, 0, 2 + 3, 4 + 3);
        depths(t, "plain 0 0 3 36 2 60;wine 0 0;wine 0 2;poppy 0 0;", 3, 0, 2 + 6, 4 + 6, 6 + 3, 8 + 3, 10);
    }

    /** "a MOTHER's 1 less, 0 at least" */
    static void p09AMothersOneLess(Telling t) {
        depths(t, "mother 0 0 0 36 1 60;", 0, 0, 0, 1, 2);
        depths(t, "mother 0 0 0 36 4 6;", 0, 0, 3, 5, 5);
        depths(t, "mother 0 0 0 36 1 0;wine 0 5;", 4, 0, 2, 2);
        depths(t, "mother 0 0 0 36 9 0;poppy 0 2;", 1, 0, 8);
    }

    /** "a CHILD's as a PLAIN one's"; a RICH one's his own, whoever STANDS in for him. */
    static void p09AChildsAndARichOnes(Telling t) {
        depths(t, "child 0 0 0 36 4 6;", 0, 0, 4, 6, 6);
        depths(t, "rich 0 0 0 36 4 6;plain 0 0 0 36 1 1;stands 1 0;", 0, 0, 4, 6, 6);
    }

    /** "none woken": CATS and ROUNDS change nothing. */
    static void p09NoneWoken(Telling t) {
        FathomNight x = t.told("houses 2;door 0 1 1;cat 1;plain 1 0 0 36 1 60;", "", "begin 1 0;go 0;sound;", null);
        t.due("woken in the round", x.state(0, 0, 0, 2, 20), 1);
        t.due("depth", x.depth(0, 0, 9), 9);
    }

    /** "-2: there is none such (of any)": a UNIT. */
    static void p09NoSuchUnit(Telling t) {
        FathomNight x = t.told("plain 0 0 0 36 1 60;", null, null, null);
        t.due("unit -1", x.depth(0, 0, -1), -2);
        t.due("unit 0", x.depth(0, 0, 0), 0);
        t.due("unit 35", x.depth(0, 0, 35), 35);
        t.due("unit 36", x.depth(0, 0, 36), -2);
        for (int unit : Telling.FAR_OFF) {
            t.due("far off", x.depth(0, 0, unit), -2);
        }
    }

    /** "-2: there is none such (of any)": a SLEEPER. */
    static void p09NoSuchSleeper(Telling t) {
        FathomNight x = t.told("plain 0 0 0 36 1 60;", null, null, null);
        t.due("sleeper 1", x.depth(0, 1, 3), -2);
        t.due("sleeper -1", x.depth(0, -1, 3), -2);
        for (int k : Telling.FAR_OFF) {
            t.due("far off", x.depth(0, k, 3), -2);
        }
    }

    /** "-2: there is none such (of any)": a STREET. */
    static void p09NoSuchStreet(Telling t) {
        FathomNight x = t.told("plain 0 0 0 36 1 60;", null, null, null);
        t.due("street 1", x.depth(1, 0, 3), -2);
        t.due("street -1", x.depth(-1, 0, 3), -2);
        for (int street : Telling.FAR_OFF) {
            t.due("far off", x.depth(street, 0, 3), -2);
        }
    }
}
