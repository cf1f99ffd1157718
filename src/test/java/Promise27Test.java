/** Promise 27: loud. */
public final class Promise27Test {
    private static final int NONE = FathomNight.NONE;

    private Promise27Test() {
    }

    public static void main(String[] args) {
        Cases.run(Promise27Test.class, args);
    }

    private static void loud(Telling t, String street, int unit, int who, int depth) {
        FathomNight x = t.told(street, null, null, null);
        t.due("who at " + unit + " of " + street, x.loud(0, unit, false), who);
        t.due("depth at " + unit + " of " + street, x.loud(0, unit, true), depth);
    }

    /** "of all ASLEEP then .. the one of the greatest DEPTH": in all HOUSES. */
    static void p27TheGreatestDepth(Telling t) {
        String street = "plain 0 0 0 36 2 60;plain 3 0 0 36 5 20;plain 0 0 0 36 1 60;";
        loud(t, street, 5, 1, 20);
        loud(t, street, 10, 0, 20);
        loud(t, street, 11, 0, 22);
    }

    /** "of several the least" */
    static void p27OfSeveralTheLeast(Telling t) {
        loud(t, "plain 0 0 0 36 2 60;plain 0 0 0 36 3 60;plain 0 0 0 36 3 60;", 5, 1, 15);
        loud(t, "plain 0 0 0 36 2 60;plain 0 0 0 36 3 60;", 0, 0, 0);
    }

    /** "(of CHILDREN, too)" */
    static void p27OfChildrenToo(Telling t) {
        loud(t, "plain 0 0 0 36 2 60;child 0 0 0 36 3 60;", 5, 1, 15);
    }

    /** "the greatest DEPTH": his own, though somebody STANDS in for him; a MOTHER's 1 less; by WINE and POPPY. */
    static void p27HisOwnDepth(Telling t) {
        loud(t, "rich 0 0 0 36 5 60;plain 0 0 0 36 3 60;stands 1 0;", 5, 0, 25);
        loud(t, "mother 0 0 0 36 3 60;plain 0 0 0 36 3 60;", 5, 1, 15);
        loud(t, "plain 0 0 0 36 3 60;plain 0 0 0 36 3 60;wine 1 5;", 5, 1, 18);
        loud(t, "plain 0 0 0 36 3 9;plain 0 0 0 36 3 9;poppy 1 5;", 5, 1, 15);
    }

    /** "of all ASLEEP then": one alone of DEPTH 0 is the one. */
    static void p27OneAlone(Telling t) {
        String street = "plain 0 0 0 9 9 60;rich 0 0 9 12 1 60;";
        loud(t, street, 8, 0, 60);
        loud(t, street, 9, 1, 0);
        loud(t, street, 11, 1, 2);
        loud(t, "plain 0 0 35 36 9 60;", 35, 0, 0);
    }

    /** "of all ASLEEP then": of nine, the last one too; nobody of a street that was told before. */
    static void p27OfNine(Telling t) {
        String nine = "plain 0 0 0 36 1 60;".repeat(8) + "plain 0 0 0 36 2 60;";
        loud(t, nine, 5, 8, 10);
        FathomNight x = t.told(nine, null, null, null);
        Telling.tell(x, 0, 0, "plain 0 0 0 36 1 60;".repeat(8));
        t.due("of eight", x.loud(0, 5, false), 0);
        t.due("depth", x.loud(0, 5, true), 5);
        Telling.tell(x, 0, 0, "");
        t.due("of none", x.loud(0, 5, false), NONE);
    }

    /** "NONE: nobody is ASLEEP" */
    static void p27Nobody(Telling t) {
        loud(t, "plain 0 0 2 9 9 60;", 1, NONE, NONE);
        loud(t, "plain 0 0 2 9 9 60;", 9, NONE, NONE);
        loud(t, "", 0, NONE, NONE);
    }

    /** "NONE: .. there is none such (of either)": a UNIT. */
    static void p27NoSuchUnit(Telling t) {
        String street = "plain 0 0 0 36 1 60;";
        loud(t, street, 0, 0, 0);
        loud(t, street, 35, 0, 35);
        loud(t, street, 36, NONE, NONE);
        loud(t, street, -1, NONE, NONE);
        for (int unit : Telling.FAR_OFF) {
            loud(t, street, unit, NONE, NONE);
        }
    }

    /** "NONE: .. there is none such (of either)": a STREET. */
    static void p27NoSuchStreet(Telling t) {
        FathomNight x = t.told("plain 0 0 0 36 1 60;", null, null, null);
        for (int far : new int[] {1, -1, 2, Integer.MAX_VALUE, Integer.MIN_VALUE}) {
            t.due("street " + far, x.loud(far, 5, false), NONE);
            t.due("street " + far, x.loud(far, 5, true), NONE);
        }
    }
}
