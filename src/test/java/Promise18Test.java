/** Promise 18: quick. */
public final class Promise18Test {
    private static final int NONE = FathomNight.NONE;

    private Promise18Test() {
    }

    public static void main(String[] args) {
        Cases.run(Promise18Test.class, args);
    }

    /** "the fewest UNITS from a HOUSE to another one by DOORS": at once or by others, both ways. */
    static void p18TheFewestUnits(Telling t) {
        FathomNight x = t.told("houses 5;door 0 1 9;door 0 2 2;door 2 3 2;door 3 1 2;", null, null, null);
        t.due("by others", x.quick(0, 0, 1), 6);
        t.due("back", x.quick(0, 1, 0), 6);
        t.due("at once", x.quick(0, 2, 3), 2);
        x = t.told("door 0 1 6;door 0 2 2;door 2 3 2;door 3 1 3;", null, null, null);
        t.due("at once, others are longer", x.quick(0, 0, 1), 6);
    }

    /** "by DOORS": longer than a NIGHT too. */
    static void p18LongerThanANight(Telling t) {
        FathomNight x = t.told("houses 8;door 0 1 9;door 1 2 9;door 2 3 9;door 3 4 9;door 4 5 9;door 5 6 9;door 6 7 9;",
                null, null, null);
        t.due("from end to end", x.quick(0, 0, 7), 63);
        t.due("back", x.quick(0, 7, 0), 63);
        t.due("35 and one", x.quick(0, 3, 7), 36);
    }

    /** From a HOUSE to itself no UNIT passes. */
    static void p18ToItself(Telling t) {
        FathomNight x = t.told("houses 8;door 0 1 1;", null, null, null);
        for (int h = 0; h < 8; h++) {
            t.due("to itself", x.quick(0, h, h), 0);
        }
    }

    /** "NONE: by none" */
    static void p18ByNone(Telling t) {
        FathomNight x = t.told("houses 5;door 0 1 1;door 2 3 1;", null, null, null);
        t.due("0 2", x.quick(0, 0, 2), NONE);
        t.due("3 1", x.quick(0, 3, 1), NONE);
        t.due("0 4", x.quick(0, 0, 4), NONE);
        t.due("4 0", x.quick(0, 4, 0), NONE);
    }

    /** "NONE: .. there is none such (of any)": a HOUSE, either one. */
    static void p18NoSuchHouse(Telling t) {
        FathomNight x = t.told("houses 2;door 0 1 1;", null, null, null);
        t.due("the last one", x.quick(0, 0, 1), 1);
        for (int h = 2; h < 9; h++) {
            t.due("to " + h, x.quick(0, 0, h), NONE);
            t.due("from " + h, x.quick(0, h, 0), NONE);
            t.due("from " + h + " to itself", x.quick(0, h, h), NONE);
        }
        t.due("from -1", x.quick(0, -1, 0), NONE);
        t.due("to -1", x.quick(0, 0, -1), NONE);
        for (int h : Telling.FAR_OFF) {
            t.due("far off", x.quick(0, h, 0), NONE);
            t.due("far off", x.quick(0, 0, h), NONE);
        }
    }

    /** "NONE: .. there is none such (of any)": a STREET. */
    static void p18NoSuchStreet(Telling t) {
        FathomNight x = t.told("", null, null, null);
        t.due("street 1", x.quick(1, 0, 0), NONE);
        t.due("street -1", x.quick(-1, 0, 0), NONE);
        for (int street : Telling.FAR_OFF) {
            t.due("far off", x.quick(street, 0, 0), NONE);
        }
    }
}
