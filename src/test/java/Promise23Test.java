/** Promise 23: standins. */
public final class Promise23Test {
    private static final int NONE = FathomNight.NONE;
    private static final String RICH = "rich 0 0 0 9 9 60;";
    private static final String PLAIN = "plain 0 0 0 9 1 60;";

    private Promise23Test() {
    }

    public static void main(String[] args) {
        Cases.run(Promise23Test.class, args);
    }

    private static void standins(Telling t, String street, String law, String round, int ways, int due) {
        FathomNight x = t.told(street, law, round, null);
        t.due("ways of " + street, x.standins(0, 0, 0, false), ways);
        t.due("least due of " + street, x.standins(0, 0, 0, true), due);
    }

    /** "each RICH one may have one PLAIN one of his HOUSE who stands in for him .. or nobody" */
    static void p23OneOrNobody(Telling t) {
        standins(t, RICH + PLAIN, "", "wait 5;sound;", 2, 5 + 5);
        standins(t, "rich 0 0 0 9 1 60;plain 0 0 0 9 9 60;", "", "wait 5;sound;", 2, 5 + 45);
        standins(t, RICH + PLAIN + "plain 0 0 6 9 1 60;", "", "wait 5;sound;", 3, 0 + 5);
    }

    /** "(each for one at most)" */
    static void p23EachForOneAtMost(Telling t) {
        // 1, 2 by one of them, but not both by him.
        standins(t, RICH + RICH + PLAIN, "", "wait 5;sound;", 3, 45 + 5 + 5);
        standins(t, RICH + RICH + PLAIN + PLAIN, "", "wait 5;sound;", 1 + 4 + 2, 5 + 5 + 5 + 5);
        standins(t, "mother 0 0 0 9 1 60;" + RICH + RICH + "plain 0 0 0 9 8 60;", "", "wait 5;sound;", 3, 4 + 45 + 40 + 40);
    }

    /** "PLAIN": nobody of another MANNER. */
    static void p23PlainOnesAlone(Telling t) {
        standins(t, RICH + "mother 0 0 0 9 1 60;", "", "wait 5;sound;", 1, 45 + 4);
        standins(t, RICH + "child 0 0 0 9 1 60;", "", "wait 5;sound;", 1, 45);
        standins(t, RICH + "rich 0 0 0 9 1 60;", "", "wait 5;sound;", 1, 45 + 5);
    }

    /** "of his HOUSE": nobody of another one; whatever his BED. */
    static void p23OfHisHouse(Telling t) {
        standins(t, RICH + "plain 1 0 0 9 1 60;", "", "wait 5;sound;", 1, 45);
        standins(t, RICH + "plain 0 3 0 9 1 60;", "", "wait 5;sound;", 2, 5 + 5);
        standins(t, RICH + PLAIN + "rich 1 0 0 9 9 60;plain 1 0 0 9 1 60;", "", "wait 5;sound;", 4, 5 + 5);
    }

    /** "whatever was told of STANDS", which stays as told. */
    static void p23WhateverWasTold(Telling t) {
        String street = "rich 0 0 0 9 5 60;mother 0 0 0 9 1 60;plain 0 0 0 9 3 60;stands 1 0;";
        standins(t, street, "", "wait 5;sound;", 2, 15 + 4 + 15);
        FathomNight x = t.told(street, "", "wait 5;sound;", null);
        x.standins(0, 0, 0, true);
        t.due("as told", x.sleeper(0, 1, 8), 0);
        t.due("read as told", x.state(0, 0, 0, 2, 30), 4);
    }

    /** "each RICH one": of none there is one way. */
    static void p23NoRichOnes(Telling t) {
        standins(t, PLAIN, "", "wait 5;sound;", 1, 5);
        standins(t, "", "", "wait 5;sound;", 1, 0);
        standins(t, PLAIN.repeat(9), "", "wait 5;sound;", 1, 45);
    }

    /** "(at most 4 RICH ones)" .. "NONE: more than 4 RICH ones" */
    static void p23FourRichOnesAtMost(Telling t) {
        standins(t, RICH.repeat(4), "", "wait 5;sound;", 1, 180);
        standins(t, RICH.repeat(4) + PLAIN.repeat(5), "", "wait 5;sound;", 1 + 4 * 5 + 6 * 20 + 4 * 60 + 120, 45);
        standins(t, PLAIN.repeat(5) + RICH.repeat(4), "", "wait 5;sound;", 501, 45);
        for (int many = 5; many <= 9; many++) {
            standins(t, RICH.repeat(many), "", "wait 5;sound;", NONE, NONE);
        }
        standins(t, PLAIN.repeat(4) + RICH.repeat(5), "", "wait 5;sound;", NONE, NONE);
    }

    /** What was asked before changes nothing. */
    static void p23AskedAgain(Telling t) {
        FathomNight x = t.told(RICH + RICH + PLAIN, "", "wait 5;sound;", null);
        t.due("another street", Telling.tell(x, 0, NONE, RICH + PLAIN), 1);
        for (int i = 0; i < 3; i++) {
            t.due("ways", x.standins(0, 0, 0, false), 3);
            t.due("due", x.standins(0, 0, 0, true), 55);
            t.due("ways of the other", x.standins(1, 0, 0, false), 2);
            t.due("due of the other", x.standins(1, 0, 0, true), 10);
        }
    }

    /** "LEAST DUE of all": by shared BEDS, by the CAP, up to STOP. */
    static void p23LeastDue(Telling t) {
        standins(t, RICH + PLAIN, "shared;", "wait 5;sound;", 2, 5 + 5);
        standins(t, RICH + PLAIN, "cap 3;", "wait 5;sound;", 2, 3 + 3);
        standins(t, RICH + PLAIN, "", "wait 5;sound;go 1;sound;", 2, 5 + 5);
        standins(t, RICH + PLAIN, "", "", 2, 0);
        standins(t, RICH + PLAIN + "poppy 0 0;", "fine 7;", "wait 5;sound;", 2, 5 + 7 + 5);
    }

    /** "NONE: .. there is none such (of any)" */
    static void p23NoneSuch(Telling t) {
        FathomNight x = t.told(RICH, "", "", null);
        for (int far : new int[] {1, -1, 2, Integer.MAX_VALUE, Integer.MIN_VALUE}) {
            t.due("street " + far, x.standins(far, 0, 0, false), NONE);
            t.due("law " + far, x.standins(0, far, 0, false), NONE);
            t.due("round " + far, x.standins(0, 0, far, false), NONE);
            t.due("street " + far, x.standins(far, 0, 0, true), NONE);
            t.due("law " + far, x.standins(0, far, 0, true), NONE);
            t.due("round " + far, x.standins(0, 0, far, true), NONE);
        }
    }
}
