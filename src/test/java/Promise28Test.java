/** Promise 28: calm. */
public final class Promise28Test {
    private static final int NONE = FathomNight.NONE;

    private Promise28Test() {
    }

    public static void main(String[] args) {
        Cases.run(Promise28Test.class, args);
    }

    private static void calm(Telling t, String street, String law, int units) {
        t.due("calm of " + street + " " + law, t.told(street, law, null, null).calm(0, 0), units);
    }

    /** "at how many UNITS nobody .. has a READING above MARK": MARK itself is not above. */
    static void p28AboveMark(Telling t) {
        String street = "plain 0 0 0 10 2 60;";
        calm(t, street, "", 36 - 9);
        calm(t, street, "mark 1;", 36 - 9);
        calm(t, street, "mark 2;", 36 - 8);
        calm(t, street, "mark 17;", 36 - 1);
        calm(t, street, "mark 18;", 36);
    }

    /** "at how many UNITS": all of them, none of them but the first. */
    static void p28AllOrFew(Telling t) {
        calm(t, "", "", 36);
        calm(t, "plain 0 0 0 36 1 60;", "", 1);
        calm(t, "plain 0 0 0 36 9 0;", "", 36);
        calm(t, "plain 0 0 34 36 1 60;", "", 35);
    }

    /** "were all HOUSES sounded then" */
    static void p28AllHouses(Telling t) {
        calm(t, "houses 8;plain 7 0 0 3 1 60;plain 3 0 30 33 1 60;", "", 36 - 4);
    }

    /** "nobody who would be READ": no CHILDREN. */
    static void p28NoChildren(Telling t) {
        calm(t, "child 0 0 0 36 9 60;", "", 36);
    }

    /** "a READING": of a RICH one by who STANDS in for him, while he sleeps himself. */
    static void p28ByOneWhoStandsIn(Telling t) {
        // The mother is READ herself, above 4 from 26 on.
        calm(t, "rich 2 0 20 30 9 60;mother 2 0 20 30 1 60;stands 1 0;", "mark 4;", 36 - 4);
        // The child is not: above 4 from 5 on, while the RICH one sleeps.
        calm(t, "rich 2 0 0 10 9 60;child 2 0 0 30 1 60;stands 1 0;", "mark 4;", 36 - 5);
    }

    /** "a READING": whatever is charged for it. */
    static void p28WhateverIsCharged(Telling t) {
        calm(t, "plain 0 0 0 10 2 60;", "free 0;", 36 - 9);
        calm(t, "plain 0 0 0 10 2 60;", "rate 0 0;rate 1 0;rate 2 0;", 36 - 9);
        calm(t, "plain 0 0 0 10 2 0;poppy 0 0;plain 0 0 0 36 1 0;", "mark 20;fine 9;shared;", 36);
    }

    /** "(none woken)" */
    static void p28NoneWoken(Telling t) {
        calm(t, "houses 2;door 0 1 1;cat 0;cat 1;plain 0 0 0 36 1 60;", "mark 10;", 11);
    }

    /** "LATE": as long as he sleeps. */
    static void p28Late(Telling t) {
        calm(t, "plain 0 0 0 10 1 60;wine 0 2;", "mark 1;", 36 - 10);
        calm(t, "plain 0 0 0 10 1 60;wine 0 1;", "mark 1;", 36 - 9);
    }

    /** "NONE: there is none such (of either)." */
    static void p28NoneSuch(Telling t) {
        FathomNight x = t.told("", "", null, null);
        for (int far : new int[] {1, -1, 2, Integer.MAX_VALUE, Integer.MIN_VALUE}) {
            t.due("street " + far, x.calm(far, 0), NONE);
            t.due("law " + far, x.calm(0, far), NONE);
        }
    }
}
