/** Promise 8: wine. */
public final class Promise08Test {
    private static final int NONE = FathomNight.NONE;
    private static final String TWO = "plain 0 0 0 9 1 1;plain 0 0 0 9 1 1;";

    private Promise08Test() {
    }

    public static void main(String[] args) {
        Cases.run(Promise08Test.class, args);
    }

    /** "what 0: who, 1: the UNIT": in their order, UNITS 0 and 35 among them, one told twice. */
    static void p08WhoAndWhen(Telling t) {
        FathomNight x = t.told(TWO + "wine 1 35;wine 0 0;wine 1 35;", null, null, null);
        int[][] rows = {{1, 35}, {0, 0}, {1, 35}};
        for (int k = 0; k < 3; k++) {
            t.due("who", x.wine(0, k, 0), rows[k][0]);
            t.due("unit", x.wine(0, k, 1), rows[k][1]);
        }
    }

    /** "WINE, at most 8, from 0 on": the eighth is there. */
    static void p08EightWines(Telling t) {
        StringBuilder eight = new StringBuilder(TWO);
        for (int k = 0; k < 8; k++) {
            eight.append("wine ").append(k % 2).append(' ').append(k).append(';');
        }
        FathomNight x = t.told(eight.toString(), null, null, null);
        for (int k = 0; k < 8; k++) {
            t.due("who", x.wine(0, k, 0), k % 2);
            t.due("unit", x.wine(0, k, 1), k);
        }
        t.due("no ninth", x.wine(0, 8, 0), NONE);
    }

    /** "NONE: there is none such (of either)": WINE. */
    static void p08NoSuchWine(Telling t) {
        FathomNight x = t.told(TWO + "wine 1 35;wine 0 7;", null, null, null);
        t.due("the last one", x.wine(0, 1, 1), 7);
        t.due("wine 2", x.wine(0, 2, 1), NONE);
        t.due("wine -1", x.wine(0, -1, 1), NONE);
        for (int k : Telling.FAR_OFF) {
            t.due("far off", x.wine(0, k, 1), NONE);
        }
        t.due("of a street without", t.told(TWO, null, null, null).wine(0, 0, 0), NONE);
    }

    /** "NONE: there is none such (of either)": a STREET. */
    static void p08NoSuchStreet(Telling t) {
        FathomNight x = t.told(TWO + "wine 1 35;", null, null, null);
        t.due("street -1", x.wine(-1, 0, 0), NONE);
        t.due("street 1", x.wine(1, 0, 0), NONE);
        for (int street : Telling.FAR_OFF) {
            t.due("far off", x.wine(street, 0, 0), NONE);
        }
    }

    /** "NONE: .. or for another what." */
    static void p08AnotherWhat(Telling t) {
        FathomNight x = t.told(TWO + "wine 1 35;", null, null, null);
        t.due("what 2", x.wine(0, 0, 2), NONE);
        t.due("what -1", x.wine(0, 0, -1), NONE);
        for (int what : Telling.FAR_OFF) {
            t.due("far off", x.wine(0, 0, what), NONE);
        }
    }
}
