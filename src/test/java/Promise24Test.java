/** Promise 24: arrears. */
public final class Promise24Test {
    private static final int NONE = FathomNight.NONE;
    /** 13 due, 78 a week, asleep for 22; 1 due, 6 a week, asleep for 20. */
    private static final String STREET = "plain 0 0 0 20 3 60;plain 0 0 0 20 1 60;wine 0 19;";

    private Promise24Test() {
    }

    public static void main(String[] args) {
        Cases.run(Promise24Test.class, args);
    }

    private static FathomNight owing(Telling t) {
        return t.told(STREET, "mark 5;", "wait 6;sound;", null);
    }

    /** "each week six times DUE comes to it, then the UNITS he is ASLEEP in a NIGHT .. are taken off it" */
    static void p24EachWeek(Telling t) {
        FathomNight x = owing(t);
        for (int n = 0; n <= 99; n++) {
            t.due("weeks " + n, x.arrears(0, 0, 0, 0, n), n * (78 - 22));
        }
    }

    /** "behind n weeks": none. */
    static void p24NoWeek(Telling t) {
        FathomNight x = owing(t);
        t.due("none", x.arrears(0, 0, 0, 0, 0), 0);
        t.due("none", x.arrears(0, 0, 0, 1, 0), 0);
    }

    /** "n weeks, 0 .. 99 .. or another n" */
    static void p24AnotherN(Telling t) {
        FathomNight x = owing(t);
        t.due("99", x.arrears(0, 0, 0, 0, 99), 99 * 56);
        t.due("100", x.arrears(0, 0, 0, 0, 100), NONE);
        t.due("-1", x.arrears(0, 0, 0, 0, -1), NONE);
        for (int n : Telling.FAR_OFF) {
            t.due("far off", x.arrears(0, 0, 0, 0, n), NONE);
        }
    }

    /** "0 at least": each week, so that nothing is had in advance. */
    static void p24ZeroAtLeast(Telling t) {
        FathomNight x = owing(t);
        for (int n = 0; n <= 99; n++) {
            t.due("weeks " + n, x.arrears(0, 0, 0, 1, n), 0);
        }
        // 3 due, 18 a week; asleep for 18, 19, 17.
        String[] rises = {"18", "19", "17"};
        int[] due = {0, 0, 10};
        for (int i = 0; i < 3; i++) {
            x = t.told("plain 0 0 0 " + rises[i] + " 1 60;", "", "wait 3;sound;", null);
            t.due("asleep for " + rises[i], x.arrears(0, 0, 0, 0, 10), due[i]);
        }
    }

    /** "(as told, none woken)": he sleeps as long, whatever CATS do; late by WINE. */
    static void p24NoneWoken(Telling t) {
        FathomNight x = t.told("houses 2;door 0 1 2;cat 0;plain 0 0 0 20 9 60;", "", "go 1;go 0;sound;", null);
        t.due("18 due, asleep for 20", x.arrears(0, 0, 0, 0, 1), 6 * 18 - 20);
        x = t.told("plain 0 0 1 35 9 60;wine 0 34;", "", "wait 5;sound;", null);
        t.due("36 due, asleep for 35", x.arrears(0, 0, 0, 0, 2), 2 * (6 * 36 - 35));
    }

    /** "six times DUE": by the CAP; the most of all. */
    static void p24DueByTheCap(Telling t) {
        FathomNight x = t.told("plain 0 0 0 20 9 60;", "cap 5;", "wait 6;sound;", null);
        t.due("5 due", x.arrears(0, 0, 0, 0, 99), 99 * 10);
        x = t.told("plain 0 0 0 1 9 60;poppy 0 0;", "fine 99;", "sound;".repeat(40), null);
        t.due("999 due, asleep for 1", x.arrears(0, 0, 0, 0, 99), 99 * (6 * 999 - 1));
    }

    /** "six times DUE": of a ROUND up to STOP. */
    static void p24UpToStop(Telling t) {
        FathomNight x = t.told("plain 0 0 0 20 9 60;", "", "wait 6;sound;go 1;sound;", null);
        t.due("54 due", x.arrears(0, 0, 0, 0, 1), 6 * 54 - 20);
        x = t.told("plain 0 0 0 20 9 60;", "", "begin 7 6;sound;", null);
        t.due("nothing due", x.arrears(0, 0, 0, 0, 99), 0);
    }

    /** "NONE: there is none such (of any)": a SLEEPER. */
    static void p24NoSuchSleeper(Telling t) {
        FathomNight x = owing(t);
        t.due("the last one", x.arrears(0, 0, 0, 1, 1), 0);
        t.due("sleeper 2", x.arrears(0, 0, 0, 2, 1), NONE);
        t.due("sleeper 2, no week", x.arrears(0, 0, 0, 2, 0), NONE);
        t.due("sleeper -1", x.arrears(0, 0, 0, -1, 1), NONE);
        for (int k : Telling.FAR_OFF) {
            t.due("far off", x.arrears(0, 0, 0, k, 1), NONE);
        }
    }

    /** "NONE: there is none such (of any)": a STREET, LAW, ROUND. */
    static void p24NoneSuch(Telling t) {
        FathomNight x = owing(t);
        for (int far : new int[] {1, -1, 2, Integer.MAX_VALUE, Integer.MIN_VALUE}) {
            t.due("street " + far, x.arrears(far, 0, 0, 0, 1), NONE);
            t.due("law " + far, x.arrears(0, far, 0, 0, 1), NONE);
            t.due("round " + far, x.arrears(0, 0, far, 0, 1), NONE);
        }
    }
}
