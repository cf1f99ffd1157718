/** Promise 32: trip. */
public final class Promise32Test {
    private static final int NONE = FathomNight.NONE;

    private Promise32Test() {
    }

    public static void main(String[] args) {
        Cases.run(Promise32Test.class, args);
    }

    private static void trips(Telling t, String street, int... due) {
        FathomNight x = t.told(street, null, null, null);
        for (int from = 0; from < due.length; from++) {
            t.due("from " + from + " of " + street, x.trip(0, from), due[from]);
        }
        t.due("from none of " + street, x.trip(0, due.length), NONE);
    }

    /** "as often through each as one likes, ending anywhere" */
    static void p32AsOftenAsOneLikes(Telling t) {
        trips(t, "door 0 1 2;door 0 2 3;door 0 3 9;", 4 + 6 + 9, 2 + 6 + 9, 3 + 4 + 9, 9 + 4 + 3);
    }

    /** "the fewest UNITS": by others where a DOOR is longer. */
    static void p32TheFewestUnits(Telling t) {
        trips(t, "houses 3;door 0 1 9;door 0 2 1;door 1 2 1;", 2, 2, 1 + 2);
        trips(t, "houses 3;door 0 1 1;door 0 2 1;door 1 2 9;", 3, 2, 2);
    }

    /** "all HOUSES can be gone to from one": of one HOUSE no UNIT passes. */
    static void p32OneHouse(Telling t) {
        trips(t, "houses 1;", 0);
    }

    /** Longer than a NIGHT. */
    static void p32LongerThanANight(Telling t) {
        trips(t, "houses 8;door 0 1 9;door 1 2 9;door 2 3 9;door 3 4 9;door 4 5 9;door 5 6 9;door 6 7 9;",
                63, 72, 81, 90, 90, 81, 72, 63);
        StringBuilder star = new StringBuilder("houses 8;");
        for (int h = 1; h < 8; h++) {
            star.append("door 0 ").append(h).append(" 9;");
        }
        trips(t, star.toString(), 117, 108, 108, 108, 108, 108, 108, 108);
    }

    /** "NONE: it can't be" */
    static void p32ItCantBe(Telling t) {
        trips(t, "houses 2;", NONE, NONE);
        trips(t, "", NONE, NONE, NONE, NONE);
        trips(t, "houses 4;door 0 1 1;door 2 3 1;", NONE, NONE, NONE, NONE);
        trips(t, "houses 3;door 0 1 1;", NONE, NONE, NONE);
    }

    /** "NONE: .. there is none such (of either)": a HOUSE. */
    static void p32NoSuchHouse(Telling t) {
        FathomNight x = t.told("houses 2;door 0 1 5;", null, null, null);
        t.due("the last one", x.trip(0, 1), 5);
        for (int from : new int[] {2, 3, 7, 8, -1, Integer.MAX_VALUE, Integer.MIN_VALUE}) {
            t.due("from " + from, x.trip(0, from), NONE);
        }
    }

    /** "NONE: .. there is none such (of either)": a STREET. */
    static void p32NoSuchStreet(Telling t) {
        FathomNight x = t.told("houses 1;", null, null, null);
        for (int far : new int[] {1, -1, 2, Integer.MAX_VALUE, Integer.MIN_VALUE}) {
            t.due("street " + far, x.trip(far, 0), NONE);
        }
    }
}
