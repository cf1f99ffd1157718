/** Promise 25: odds. */
public final class Promise25Test {
    private static final int NONE = FathomNight.NONE;

    private Promise25Test() {
    }

    public static void main(String[] args) {
        Cases.run(Promise25Test.class, args);
    }

    private static void odds(Telling t, String street, String law, int above, int under) {
        FathomNight x = t.told(street, law, null, null);
        t.due("above of " + street + " " + law, x.odds(0, 0, 0, false), above);
        t.due("under of " + street + " " + law, x.odds(0, 0, 0, true), under);
    }

    /** "each of those at which he is ASLEEP as likely: the mean CHARGE": MARK, RATE, FINE. */
    static void p25TheMeanCharge(Telling t) {
        // At 2, 3, 4, 5 he is READ as 0, 2, 4, 6: 0, 1, 3 * 3 + 1, 5 * 3 + 1: 27 by 4.
        odds(t, "plain 0 0 2 6 2 60;poppy 0 4;", "mark 1;rate 1 3;fine 1;", 27, 4);
    }

    /** "a fraction in least terms": whole ones are by 1. */
    static void p25InLeastTerms(Telling t) {
        odds(t, "plain 0 0 0 3 1 60;", "", 1, 1);
        odds(t, "plain 0 0 0 4 1 60;", "", 3, 2);
        odds(t, "plain 0 0 0 36 1 60;", "", 35, 2);
        odds(t, "plain 0 0 0 4 1 60;", "mark 1;", 3, 4);
        odds(t, "plain 0 0 0 6 1 60;", "mark 2;", 1, 1);
        odds(t, "plain 0 0 0 2 9 60;", "rate 0 8;", 36, 1);
        odds(t, "plain 0 0 0 2 1 60;", "", 1, 2);
        odds(t, "plain 0 0 0 36 1 1;", "mark 0;", 35, 36);
    }

    /** "(0 by 1, if he is never ASLEEP, or a CHILD)" */
    static void p25AChild(Telling t) {
        odds(t, "child 0 0 0 9 9 60;poppy 0 0;", "fine 9;", 0, 1);
    }

    /** Where all CHARGES are 0, in least terms it is 0 by 1: at LIES alone, below MARK, in a FREE HOUSE. */
    static void p25NothingIsCharged(Telling t) {
        odds(t, "plain 0 0 35 36 9 60;", "", 0, 1);
        odds(t, "plain 0 0 2 6 2 60;", "mark 60;", 0, 1);
        odds(t, "plain 0 0 2 6 2 60;poppy 0 0;", "fine 9;free 0;", 0, 1);
        odds(t, "plain 0 0 0 4 9 60;", "rate 0 0;", 0, 1);
    }

    /** "those at which he is ASLEEP": till he gets up late, LIES to the last UNIT. */
    static void p25TheUnitsAsleep(Telling t) {
        odds(t, "plain 0 0 30 33 1 60;wine 0 26;", "", 0 + 1 + 3 + 2 + 3 + 4, 5);
        odds(t, "plain 0 0 30 33 1 60;wine 0 24;", "", 1, 1);
        odds(t, "plain 0 0 31 36 1 60;wine 0 35;", "", 0 + 1 + 2 + 3 + 4 + 3, 5);
    }

    /** "those at which he is ASLEEP": UNIT 0 and LIES are among them, by the FINE; one UNIT alone. */
    static void p25FineAtLies(Telling t) {
        odds(t, "plain 0 0 0 2 2 60;poppy 0 0;", "fine 9;", 10, 1);
        odds(t, "plain 0 0 0 1 2 60;poppy 0 0;", "fine 9;", 9, 1);
        odds(t, "plain 0 0 35 36 2 60;poppy 0 35;", "fine 1;", 1, 1);
        odds(t, "plain 0 0 33 36 2 60;poppy 0 35;", "fine 1;mark 60;", 1, 3);
    }

    /** "(BEDS not shared" */
    static void p25BedsNotShared(Telling t) {
        odds(t, "plain 0 0 0 4 1 60;plain 0 0 0 36 9 60;", "shared;", 3, 2);
    }

    /** "READ as he is, by one who STANDS in)": 0 if that one is awake. */
    static void p25ByOneWhoStandsIn(Telling t) {
        // At 0 .. 3: 0, 0, 0, 3; he took POPPY himself.
        odds(t, "rich 1 0 0 4 9 60;plain 1 0 2 9 3 60;stands 1 0;", "", 3, 4);
        odds(t, "rich 1 0 0 4 9 60;plain 1 0 2 9 3 60;stands 1 0;poppy 0 3;", "fine 6;", 3 + 6, 4);
        odds(t, "rich 1 0 0 4 9 60;child 1 0 9 20 3 60;stands 1 0;", "", 0, 1);
        odds(t, "rich 1 0 0 4 9 60;plain 1 0 9 20 3 60;", "", 27, 2);
    }

    /** "the mean CHARGE": no CAP, no CATS. */
    static void p25NoCap(Telling t) {
        odds(t, "houses 2;door 0 1 1;cat 0;plain 0 0 0 2 9 60;", "cap 1;", 9, 2);
    }

    /** "NONE: there is none such (of any)": a SLEEPER. */
    static void p25NoSuchSleeper(Telling t) {
        FathomNight x = t.told("plain 0 0 0 4 1 60;plain 0 0 0 4 1 60;", "", null, null);
        t.due("the last one", x.odds(0, 0, 1, false), 3);
        for (int k : new int[] {2, 9, -1, Integer.MAX_VALUE, Integer.MIN_VALUE}) {
            t.due("sleeper " + k, x.odds(0, 0, k, false), NONE);
            t.due("sleeper " + k, x.odds(0, 0, k, true), NONE);
        }
    }

    /** "NONE: there is none such (of any)": a STREET, a LAW. */
    static void p25NoneSuch(Telling t) {
        FathomNight x = t.told("plain 0 0 0 4 1 60;", "", null, null);
        for (int far : new int[] {1, -1, 2, Integer.MAX_VALUE, Integer.MIN_VALUE}) {
            t.due("street " + far, x.odds(far, 0, 0, false), NONE);
            t.due("street " + far, x.odds(far, 0, 0, true), NONE);
            t.due("law " + far, x.odds(0, far, 0, false), NONE);
            t.due("law " + far, x.odds(0, far, 0, true), NONE);
        }
    }
}
