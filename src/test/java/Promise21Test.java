/** Promise 21: soonest. */
public final class Promise21Test {
    private static final int NONE = FathomNight.NONE;
    private static final String STREET = "houses 3;door 0 1 2;door 0 2 3;plain 1 0 0 36 2 60;plain 2 0 0 36 3 60;";

    private Promise21Test() {
    }

    public static void main(String[] args) {
        Cases.run(Promise21Test.class, args);
    }

    /** "The fewest UNITS of those that WENT." */
    static void p21TheFewestUnits(Telling t) {
        FathomNight x = t.told(STREET, "mark 4;", null, "caught 1;quiet 0;");
        t.due("0 2", x.soonest(0, 0, 0, 1), 3);
        t.due("0 2 0", x.soonest(0, 0, 0, 2), 6);
        t.due("0 1 0 2", x.soonest(0, 0, 0, 3), 7);
        x = t.told(STREET, "mark 4;", null, "");
        t.due("0 1", x.soonest(0, 0, 0, 1), 2);
        t.due("0 1 seven times", x.soonest(0, 0, 0, 7), 14);
    }

    /** "0 to 7": where he goes nowhere, no UNIT passes. */
    static void p21NoGo(Telling t) {
        t.due("0", t.told(STREET, "mark 4;", null, "").soonest(0, 0, 0, 0), 0);
    }

    /** "UNIT 35 at most": the last one may be. */
    static void p21TheLastUnit(Telling t) {
        FathomNight x = t.told("houses 2;door 0 1 7;", "", null, "");
        t.due("35", x.soonest(0, 0, 0, 5), 35);
        t.due("behind it", x.soonest(0, 0, 0, 6), NONE);
    }

    /** "NONE: none did" */
    static void p21NoneDid(Telling t) {
        FathomNight x = t.told(STREET, "mark 4;", null, "caught 1;quiet 0;");
        t.due("none", x.soonest(0, 0, 0, 0), NONE);
        x = t.told(STREET, "mark 4;", null, "caught 1;quiet 1;");
        for (int n = 0; n < 8; n++) {
            t.due("none of " + n, x.soonest(0, 0, 0, n), NONE);
        }
        t.due("no doors", t.told("", "", null, "").soonest(0, 0, 0, 1), NONE);
        x = t.told("houses 8;door 0 7 9;plain 7 0 0 36 9 60;", "", null, "quiet 0;");
        t.due("of eight houses", x.soonest(0, 0, 0, 1), NONE);
        t.due("of eight houses", x.went(0, 0, 0, 1, 7), 0);
    }

    /** "or as went()": another n. */
    static void p21AnotherN(Telling t) {
        FathomNight x = t.told(STREET, "mark 4;", null, "");
        t.due("n 8", x.soonest(0, 0, 0, 8), NONE);
        t.due("n -1", x.soonest(0, 0, 0, -1), NONE);
        for (int n : Telling.FAR_OFF) {
            t.due("far off", x.soonest(0, 0, 0, n), NONE);
        }
    }

    /** "or as went()": a SLEEPER told of is not there. */
    static void p21NoSuchSleeper(Telling t) {
        t.due("1 is there", t.told(STREET, "", null, "quiet 1;").soonest(0, 0, 0, 0), 0);
        t.due("2 is not", t.told(STREET, "", null, "quiet 2;").soonest(0, 0, 0, 0), NONE);
        t.due("8 is not", t.told(STREET, "", null, "quiet 1;quiet 8;").soonest(0, 0, 0, 0), NONE);
    }

    /** "or as went()": a STREET, LAW, CATCH that is not there. */
    static void p21NoneSuch(Telling t) {
        FathomNight x = t.told(STREET, "mark 4;", null, "");
        for (int far : new int[] {1, -1, 2, Integer.MAX_VALUE, Integer.MIN_VALUE}) {
            t.due("street " + far, x.soonest(far, 0, 0, 1), NONE);
            t.due("law " + far, x.soonest(0, far, 0, 1), NONE);
            t.due("catch " + far, x.soonest(0, 0, far, 1), NONE);
        }
    }
}
