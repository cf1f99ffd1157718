/** Promise 29: paid. */
public final class Promise29Test {
    private static final int NONE = FathomNight.NONE;
    /** 4, 2, 0 and 2 due. */
    private static final String STREET = "plain 0 0 0 36 4 60;plain 0 0 0 36 2 60;child 0 0 0 36 9 60;plain 0 0 0 36 2 60;";

    private Promise29Test() {
    }

    public static void main(String[] args) {
        Cases.run(Promise29Test.class, args);
    }

    private static void paid(Telling t, FathomNight x, int n, int bits) {
        t.due("who by " + n, x.paid(0, 0, 0, n, true), bits);
        t.due("how many by " + n, x.paid(0, 0, 0, n, false), bits == NONE ? NONE : Integer.bitCount(bits));
    }

    /** "the most SLEEPERS whose DUES in a ROUND are n together or fewer": n itself may be. */
    static void p29TheMostByNCoins(Telling t) {
        FathomNight x = t.told(STREET, "", "wait 1;sound;", null);
        int[][] rows = {{0, 4}, {1, 4}, {2, 6}, {3, 6}, {4, 14}, {5, 14}, {6, 7}, {7, 7}, {8, 15}, {9, 15}};
        for (int[] row : rows) {
            // By 6 coins 0, 1, 2 and 0, 2, 3 and 1, 2, 3 are three each: 7 is the least number.
            paid(t, x, row[0], row[1]);
        }
    }

    /** "of several sets the least number" */
    static void p29OfSeveralTheLeast(Telling t) {
        FathomNight x = t.told("plain 0 0 0 36 2 60;".repeat(9), "", "wait 1;sound;", null);
        for (int many = 0; many <= 9; many++) {
            paid(t, x, 2 * many, (1 << many) - 1);
            paid(t, x, 2 * many + 1, (1 << many) - 1);
        }
        x = t.told("plain 0 0 0 36 3 60;plain 0 0 0 36 1 60;plain 0 0 0 36 2 60;", "", "wait 1;sound;", null);
        paid(t, x, 4, 3);
        paid(t, x, 3, 6);
    }

    /** "PAID by n, 0 .. 9999": nobody who owes by none; the most by 9999. */
    static void p29NoneAndAll(Telling t) {
        FathomNight x = t.told("plain 0 0 0 36 1 60;", "", "wait 1;sound;", null);
        paid(t, x, 0, 0);
        paid(t, x, 9999, 1);
        x = t.told("plain 0 0 0 36 9 60;".repeat(9), "rate 2 9;", "wait 8;sound;sound;", null);
        paid(t, x, 8991, 511);
        paid(t, x, 8990, 255);
        paid(t, x, 9999, 511);
    }

    /** "whose DUES": those who owe nothing are paid by none. */
    static void p29NothingIsDue(Telling t) {
        FathomNight x = t.told(STREET, "", "sound;", null);
        paid(t, x, 0, 15);
        paid(t, t.told("", "", "", null), 0, 0);
    }

    /** "NONE: .. or another n." */
    static void p29AnotherN(Telling t) {
        FathomNight x = t.told(STREET, "", "wait 1;sound;", null);
        paid(t, x, 9999, 15);
        paid(t, x, 10000, NONE);
        paid(t, x, -1, NONE);
        paid(t, x, Integer.MAX_VALUE, NONE);
        paid(t, x, Integer.MIN_VALUE, NONE);
    }

    /** "DUES in a ROUND": up to STOP, by the CAP. */
    static void p29UpToStop(Telling t) {
        paid(t, t.told(STREET, "", "wait 1;sound;go 1;wait 5;sound;", null), 8, 15);
        paid(t, t.told(STREET, "cap 1;", "wait 1;sound;", null), 3, 15);
    }

    /** "NONE: there is none such (of any)" */
    static void p29NoneSuch(Telling t) {
        FathomNight x = t.told(STREET, "", "wait 1;sound;", null);
        for (int far : new int[] {1, -1, 2, Integer.MAX_VALUE, Integer.MIN_VALUE}) {
            for (boolean bits : new boolean[] {false, true}) {
                t.due("street " + far, x.paid(far, 0, 0, 5, bits), NONE);
                t.due("law " + far, x.paid(0, far, 0, 5, bits), NONE);
                t.due("round " + far, x.paid(0, 0, far, 5, bits), NONE);
            }
        }
    }
}
