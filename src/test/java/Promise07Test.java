/** Promise 7: sleeper; with LATE of Term 2. */
public final class Promise07Test {
    private static final int NONE = FathomNight.NONE;

    private Promise07Test() {
    }

    public static void main(String[] args) {
        Cases.run(Promise07Test.class, args);
    }

    private static void row(Telling t, FathomNight x, int k, int[] due) {
        for (int what = 0; what < due.length; what++) {
            t.due("sleeper " + k + " what " + what, x.sleeper(0, k, what), due[what]);
        }
    }

    /** "what 0: MANNER .. 9: the UNIT at which he gets up", of each MANNER. */
    static void p07OfASleeper(Telling t) {
        FathomNight x = t.told("rich 3 2 5 30 7 60;mother 0 3 35 36 9 0;child 1 0 0 1 1 7;plain 3 1 4 8 2 9;poppy 3 0;"
                + "poppy 0 6;stands 3 0;", null, null, null);
        row(t, x, 0, new int[] {3, 3, 2, 5, 30, 7, 60, 6, NONE, 30});
        row(t, x, 1, new int[] {1, 0, 3, 35, 36, 9, 0, NONE, NONE, 36});
        row(t, x, 2, new int[] {2, 1, 0, 0, 1, 1, 7, NONE, NONE, 1});
        row(t, x, 3, new int[] {0, 3, 1, 4, 8, 2, 9, 0, 0, 8});
    }

    /** "a HOUSE, 0 .. 7, a BED in it, 0 .. 3, LIES .. 0 .. 35, RISES .. 1 .. 36, SINK, 1 .. 9, DEEP, 0 .. 60": least, greatest. */
    static void p07LeastAndGreatest(Telling t) {
        FathomNight x = t.told("houses 8;plain 0 0 0 1 1 0;plain 7 3 35 36 9 60;", null, null, null);
        row(t, x, 0, new int[] {0, 0, 0, 0, 1, 1, 0, NONE, NONE, 1});
        row(t, x, 1, new int[] {0, 7, 3, 35, 36, 9, 60, NONE, NONE, 36});
    }

    /** "SLEEPERS, at most 9, from 0 on": the ninth is there. */
    static void p07NineSleepers(Telling t) {
        StringBuilder nine = new StringBuilder();
        for (int k = 0; k < 9; k++) {
            nine.append("plain 0 0 ").append(k).append(" 36 1 ").append(k).append(';');
        }
        FathomNight x = t.told(nine.toString(), null, null, null);
        for (int k = 0; k < 9; k++) {
            t.due("lies", x.sleeper(0, k, 3), k);
            t.due("deep", x.sleeper(0, k, 6), k);
        }
        t.due("no tenth", x.sleeper(0, 9, 3), -2);
    }

    /** "SLEEPERS, at most 9": all that is told of the ninth. */
    static void p07OfTheNinth(Telling t) {
        FathomNight x = t.told("houses 8;rich 7 0 0 9 1 1;" + "plain 0 0 0 9 1 1;".repeat(7) + "rich 7 3 2 30 7 50;poppy 8 5;stands 8 0;"
                + "wine 8 29;", null, null, null);
        row(t, x, 8, new int[] {3, 7, 3, 2, 30, 7, 50, 5, 0, 32});
        row(t, x, 7, new int[] {0, 0, 0, 0, 9, 1, 1, NONE, NONE, 9});
    }

    /** "7: POPPY (NONE)": UNIT 0 is one; of several the latest stands. */
    static void p07Poppy(Telling t) {
        FathomNight x = t.told("plain 0 0 0 9 1 1;".repeat(4) + "poppy 1 0;poppy 2 35;poppy 3 35;poppy 3 6;", null, null, null);
        t.due("none", x.sleeper(0, 0, 7), NONE);
        t.due("unit 0", x.sleeper(0, 1, 7), 0);
        t.due("unit 35", x.sleeper(0, 2, 7), 35);
        t.due("the latest", x.sleeper(0, 3, 7), 6);
    }

    /** "8: for whom he STANDS in (NONE)": of several the latest stands; several may stand in for one. */
    static void p07Stands(Telling t) {
        FathomNight x = t.told("rich 0 0 0 9 1 1;rich 0 0 0 9 1 1;plain 0 0 0 9 1 1;plain 0 0 0 9 1 1;plain 0 0 0 9 1 1;"
                + "stands 2 0;stands 2 1;stands 3 1;stands 0 1;", null, null, null);
        t.due("the latest", x.sleeper(0, 2, 8), 1);
        t.due("another one for the same", x.sleeper(0, 3, 8), 1);
        t.due("for nobody", x.sleeper(0, 4, 8), NONE);
        t.due("one who is rich himself", x.sleeper(0, 0, 8), 1);
        t.due("not who stands in for him", x.sleeper(0, 1, 8), NONE);
    }

    /** "two UNITS later .. if he drank WINE at a UNIT from RISES less 8 to RISES less 1" */
    static void p07LateByWine(Telling t) {
        for (int unit = 0; unit < 36; unit++) {
            FathomNight x = t.told("plain 0 0 0 20 1 60;wine 0 " + unit + ";", null, null, null);
            t.due("up by wine at " + unit, x.sleeper(0, 0, 9), unit >= 12 && unit <= 19 ? 22 : 20);
            t.due("RISES as told", x.sleeper(0, 0, 4), 20);
        }
    }

    /** "(36 at most)" */
    static void p07LateTill36AtMost(Telling t) {
        for (int rises = 33; rises <= 36; rises++) {
            FathomNight x = t.told("plain 0 0 0 " + rises + " 1 60;wine 0 " + (rises - 1) + ";", null, null, null);
            t.due("rises at " + rises, x.sleeper(0, 0, 9), Math.min(36, rises + 2));
        }
    }

    /** "from RISES less 8": where that is below UNIT 0. */
    static void p07LateOfAnEarlyRiser(Telling t) {
        for (int rises = 1; rises < 9; rises++) {
            for (int unit = 0; unit < 10; unit++) {
                FathomNight x = t.told("plain 0 0 0 " + rises + " 1 60;wine 0 " + unit + ";", null, null, null);
                t.due("rises at " + rises + ", wine at " + unit, x.sleeper(0, 0, 9), unit < rises ? rises + 2 : rises);
            }
        }
    }

    /** "two UNITS later": by several WINES too. */
    static void p07LateOnceBySeveral(Telling t) {
        FathomNight x = t.told("plain 0 0 0 20 1 60;" + "wine 0 19;".repeat(4) + "wine 0 12;".repeat(4), null, null, null);
        t.due("up", x.sleeper(0, 0, 9), 22);
    }

    /** "if he drank WINE": not by another one's; but by WINE drunk ahead of LIES. */
    static void p07LateByHisOwnWine(Telling t) {
        FathomNight x = t.told("plain 0 0 0 20 1 60;plain 0 0 19 20 1 60;wine 1 12;", null, null, null);
        t.due("another one's", x.sleeper(0, 0, 9), 20);
        t.due("ahead of lies", x.sleeper(0, 1, 9), 22);
    }

    /** "-2: there is none such (of either)": a STREET. */
    static void p07NoSuchStreet(Telling t) {
        FathomNight x = t.told("plain 0 0 0 20 1 60;", null, null, null);
        t.due("street -1", x.sleeper(-1, 0, 0), -2);
        t.due("street 1", x.sleeper(1, 0, 0), -2);
        t.due("street 2", x.sleeper(2, 0, 0), -2);
        for (int street : Telling.FAR_OFF) {
            t.due("far off", x.sleeper(street, 0, 0), -2);
        }
    }

    /** "-2: there is none such (of either)": a SLEEPER. */
    static void p07NoSuchSleeper(Telling t) {
        FathomNight x = t.told("plain 0 0 0 20 1 60;plain 0 0 0 20 1 60;", null, null, null);
        t.due("the last one", x.sleeper(0, 1, 0), 0);
        t.due("sleeper 2", x.sleeper(0, 2, 0), -2);
        t.due("sleeper 9", x.sleeper(0, 9, 0), -2);
        t.due("sleeper -1", x.sleeper(0, -1, 0), -2);
        for (int k : Telling.FAR_OFF) {
            t.due("far off", x.sleeper(0, k, 0), -2);
        }
        t.due("of an empty street", t.told("", null, null, null).sleeper(0, 0, 0), -2);
    }

    /** "-2: .. or for another what." */
    static void p07AnotherWhat(Telling t) {
        FathomNight x = t.told("plain 0 0 0 20 1 60;", null, null, null);
        t.due("what 9", x.sleeper(0, 0, 9), 20);
        t.due("what 10", x.sleeper(0, 0, 10), -2);
        t.due("what -1", x.sleeper(0, 0, -1), -2);
        for (int what : Telling.FAR_OFF) {
            t.due("far off", x.sleeper(0, 0, what), -2);
        }
    }
}
