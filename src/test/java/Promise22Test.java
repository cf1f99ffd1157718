/** Promise 22: cats. */
public final class Promise22Test {
    private static final int NONE = FathomNight.NONE;

    private Promise22Test() {
    }

    public static void main(String[] args) {
        Cases.run(Promise22Test.class, args);
    }

    private static void cats(Telling t, String street, int bits) {
        FathomNight x = t.told(street, null, null, null);
        t.due("how many of " + street, x.cats(0, false), Integer.bitCount(bits));
        t.due("which of " + street, x.cats(0, true), bits);
    }

    /** "the fewest HOUSES (bits) so that each HOUSE has a CAT or a DOOR to one that has" */
    static void p22TheFewest(Telling t) {
        cats(t, "houses 3;door 0 1 1;door 1 2 1;", 2);
        cats(t, "houses 8;door 7 0 1;door 7 1 1;door 7 2 1;door 7 3 1;door 7 4 1;door 7 5 1;door 7 6 1;", 128);
        cats(t, "houses 6;door 0 1 1;door 1 2 1;door 3 4 9;door 4 5 9;", 2 + 16);
    }

    /** "of several the least" */
    static void p22OfSeveralTheLeast(Telling t) {
        cats(t, "houses 2;door 0 1 1;", 1);
        cats(t, "houses 4;door 0 1 1;door 1 2 1;door 2 3 1;door 3 0 1;", 3);
        // 1 and 3, or 0 and 3: 10 and 9.
        cats(t, "houses 5;door 0 1 1;door 1 2 1;door 2 3 1;door 3 4 1;", 9);
    }

    /** "each HOUSE": where there are no DOORS each has one of its own. */
    static void p22NoDoors(Telling t) {
        for (int houses = 1; houses <= 8; houses++) {
            cats(t, "houses " + houses + ";", (1 << houses) - 1);
        }
        cats(t, "", 15);
    }

    /** Which HOUSES have CATS as told is all the same. */
    static void p22WhateverWasTold(Telling t) {
        cats(t, "houses 3;door 0 1 1;door 1 2 1;cat 0;cat 2;", 2);
    }

    /** "NONE: there is none such." */
    static void p22NoSuchStreet(Telling t) {
        FathomNight x = t.told("", null, null, null);
        t.due("street 1", x.cats(1, true), NONE);
        t.due("street 1", x.cats(1, false), NONE);
        t.due("street -1", x.cats(-1, true), NONE);
        t.due("street -1", x.cats(-1, false), NONE);
        for (int street : Telling.FAR_OFF) {
            t.due("far off", x.cats(street, true), NONE);
            t.due("far off", x.cats(street, false), NONE);
        }
    }
}
