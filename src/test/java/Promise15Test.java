/** Promise 15: seven. */
public final class Promise15Test {
    private static final int NONE = FathomNight.NONE;

    private Promise15Test() {
    }

    public static void main(String[] args) {
        Cases.run(Promise15Test.class, args);
    }

    /** LEAST, and LIES of each SLEEPER then. */
    private static void seven(Telling t, String street, String law, String round, int least, int... lies) {
        FathomNight x = t.told(street, law, round, null);
        String told = street + " " + law + " " + round;
        t.due("least of " + told, x.seven(0, 0, 0, 0), least);
        for (int k = 0; k < lies.length; k++) {
            t.due("lies of " + k + " of " + told, x.seven(0, 0, 0, 10 + k), lies[k]);
        }
    }

    /** "LIES is 0 to 8": 9 would be less, and can't be. */
    static void p15LiesAtEightAtMost(Telling t) {
        seven(t, "plain 0 0 0 9 3 60;", "mark 2;", "wait 10;sound;", 4, 8);
        seven(t, "plain 0 0 0 9 3 60;", "", "wait 9;sound;", 3, 8);
        seven(t, "plain 0 0 0 9 3 60;", "", "wait 8;sound;", 0, 8);
    }

    /** "the first such row of LIES": from 0 on. */
    static void p15TheFirstRow(Telling t) {
        seven(t, "plain 0 0 5 9 3 60;mother 0 0 20 30 2 60;", "mark 60;", "wait 10;sound;", 0, 0, 0);
        seven(t, "plain 0 0 5 9 1 60;plain 0 0 5 9 1 60;", "mark 2;", "wait 5;sound;", 0, 3, 3);
        seven(t, "plain 0 0 5 9 1 60;plain 1 0 5 9 1 60;", "", "wait 5;sound;", 0, 5, 0);
    }

    /** "the first such row of LIES, by SLEEPERS": SLEEPER 0 lies down as early as may be, whatever 1 does then. */
    static void p15BySleepers(Telling t) {
        // At 7 he lies at 7 or later; at 34 he is up, if he lay down at 6 or ahead; 1 is not deeper then.
        seven(t, "plain 0 0 0 9 5 60;plain 0 0 0 9 1 60;", "shared;", "wait 7;sound;wait 27;sound;", 5 + 5, 6, 2);
    }

    /** "as each likes": one early, another one late. */
    static void p15AsEachLikes(Telling t) {
        String street = "houses 2;door 0 1 1;plain 0 0 5 9 1 60;plain 1 0 5 9 1 60;";
        // HOUSE 0 is sounded at 10, HOUSE 1 at 28.
        seven(t, street, "", "wait 10;sound;wait 17;go 1;sound;", 2, 8, 0);
        // HOUSE 1 is sounded at 10, HOUSE 0 at 28.
        seven(t, street, "", "begin 1 0;wait 10;sound;wait 17;go 0;sound;", 2, 0, 8);
    }

    /** "the least DUE of all together": where one's DUE hangs on how another one lies down. */
    static void p15OneByAnother(Telling t) {
        // By WINE 0 is ASLEEP at 28 whenever he lay down; 1 is up then, if he lay down at 0.
        seven(t, "plain 0 0 0 9 2 60;plain 0 0 0 9 3 60;wine 0 21;", "shared;", "wait 28;sound;", 40, 8, 0);
        // 0 alone at 4, 1 alone at 29: 27 + 12; the other way about: 15 + 28.
        seven(t, "plain 0 0 0 9 9 28;plain 0 0 0 9 9 12;wine 1 0;", "shared;cap 45;", "wait 4;sound;wait 25;sound;", 39, 1, 5);
        seven(t, "rich 0 0 0 9 3 60;rich 0 0 0 9 7 60;plain 0 0 0 9 3 9;stands 1 0;stands 0 1;", "shared;",
                "wait 13;sound;wait 19;sound;wait 1;sound;", 105, 2, 8, 0);
    }

    /** "LIES is 0 to 8": at UNIT 0 he is ASLEEP by LIES 0 alone. */
    static void p15FineAtUnitZero(Telling t) {
        seven(t, "plain 0 0 5 9 1 60;poppy 0 0;", "fine 7;", "sound;", 0, 1);
        seven(t, "plain 0 0 5 9 1 60;poppy 0 0;", "fine 7;", "sound;wait 28;sound;", 7, 0);
    }

    /** "each SLEEPER RISES 28 UNITS behind LIES": he is up at that UNIT, and ASLEEP ahead of it. */
    static void p15RisesBehindLies(Telling t) {
        seven(t, "plain 0 0 5 9 1 60;", "", "wait 28;sound;", 0, 0);
        seven(t, "plain 0 0 5 9 1 60;", "", "wait 29;sound;", 0, 0);
        seven(t, "plain 0 0 5 9 1 60;", "", "wait 27;sound;", 19, 8);
        seven(t, "plain 0 0 5 9 1 60;", "", "wait 27;sound;wait 1;sound;", 27, 0);
        seven(t, "plain 0 0 5 9 1 60;", "", "wait 8;sound;wait 27;sound;", 1, 7);
        seven(t, "plain 0 0 5 9 9 60;", "", "wait 7;sound;wait 28;sound;", 0, 7);
    }

    /** "all else as told": he gets up late by WINE, by RISES as it is then. */
    static void p15LateByWine(Telling t) {
        seven(t, "plain 0 0 5 9 1 60;wine 0 25;", "", "wait 28;sound;", 20 + 3, 8);
        seven(t, "plain 0 0 5 9 1 60;wine 0 19;", "", "wait 28;sound;", 0, 0);
        // By LIES 6 and 7 he gets up at 36, by LIES 5 at 35.
        seven(t, "plain 0 0 5 9 1 60;wine 0 29;", "rate 8 9;", "wait 7;sound;wait 28;sound;", 2, 5);
        // By LIES 0 he is up at 28, as the WINE of 29 is behind that.
        seven(t, "plain 0 0 5 9 1 60;wine 0 29;", "rate 8 9;", "wait 35;sound;", 0, 0);
    }

    /** "all else as told": CATS, STANDS, POPPY. */
    static void p15AllElseAsTold(Telling t) {
        seven(t, "houses 2;door 0 1 9;cat 0;plain 0 0 5 9 1 60;", "", "go 1;go 0;sound;", 9, 0);
        seven(t, "rich 0 0 5 9 9 60;plain 0 0 5 9 1 60;stands 1 0;", "", "wait 20;sound;", 12 + 12, 0, 8);
        seven(t, "plain 0 0 5 9 1 60;poppy 0 9;", "fine 7;", "wait 10;sound;", 7 + 2, 8);
        seven(t, "child 0 0 5 9 9 60;plain 0 1 5 9 1 60;", "", "wait 10;sound;", 2, 0, 8);
    }

    /** "the least DUE of all together": by the CAP of each one. */
    static void p15ByTheCap(Telling t) {
        seven(t, "plain 0 0 5 9 9 60;plain 0 0 5 9 9 60;", "cap 1;", "wait 9;sound;wait 1;sound;", 2, 0, 0);
        seven(t, "plain 0 0 5 9 9 60;plain 0 0 5 9 1 60;", "cap 2;", "wait 9;sound;", 2 + 1, 0, 8);
    }

    /** "(Of a ROUND up to STOP.)" */
    static void p15UpToStop(Telling t) {
        seven(t, "plain 0 0 5 9 1 60;", "", "wait 10;sound;go 1;wait 3;sound;", 2, 8);
        seven(t, "plain 0 0 5 9 1 60;", "", "begin 7 10;sound;", 0, 0);
    }

    /** What was told stays as it is. */
    static void p15AsToldAllTheSame(Telling t) {
        FathomNight x = t.told("plain 0 0 20 30 1 60;", "", "wait 25;sound;", null);
        t.due("least", x.seven(0, 0, 0, 0), 17);
        t.due("lies", x.sleeper(0, 0, 3), 20);
        t.due("rises", x.sleeper(0, 0, 4), 30);
        t.due("due", x.state(0, 0, 0, 2, 4), 5);
    }

    /** What was asked before changes nothing. */
    static void p15AskedAgain(Telling t) {
        FathomNight x = t.told("plain 0 0 5 9 9 60;".repeat(5), "", "wait 20;sound;", null);
        t.due("another street", Telling.tell(x, 0, NONE, "plain 0 0 5 9 1 60;".repeat(5)), 1);
        t.due("another round", Telling.tell(x, 2, NONE, "wait 10;sound;wait 18;sound;"), 1);
        for (int i = 0; i < 3; i++) {
            t.due("least", x.seven(0, 0, 0, 0), 300);
            t.due("lies", x.seven(0, 0, 0, 14), 0);
            t.due("least of the other", x.seven(1, 0, 1, 0), 50);
            t.due("lies of the other", x.seven(1, 0, 1, 14), 0);
            t.due("least of the other at the first round", x.seven(1, 0, 0, 0), 60);
            t.due("lies of the other at the first round", x.seven(1, 0, 0, 14), 8);
        }
    }

    /** "(Of at most 5 SLEEPERS.)", "NONE: more than 5 SLEEPERS" */
    static void p15FiveSleepersAtMost(Telling t) {
        String one = "plain 0 0 0 9 1 60;";
        seven(t, one.repeat(5), "", "wait 10;sound;", 10, 8, 8, 8, 8, 8);
        for (int many = 6; many <= 9; many++) {
            FathomNight x = t.told(one.repeat(many), "", "wait 10;sound;", null);
            t.due("least of " + many, x.seven(0, 0, 0, 0), NONE);
            t.due("lies of " + many, x.seven(0, 0, 0, 10), NONE);
        }
    }

    /** Of no SLEEPERS at all nothing is due. */
    static void p15NoSleepers(Telling t) {
        FathomNight x = t.told("", "", "sound;", null);
        t.due("least", x.seven(0, 0, 0, 0), 0);
        t.due("nobody's", x.seven(0, 0, 0, 10), NONE);
    }

    /** "10 + k: LIES of a SLEEPER": NONE where there is none such. */
    static void p15NoSuchSleeper(Telling t) {
        FathomNight x = t.told("plain 0 0 0 9 1 60;plain 0 0 0 9 1 60;", "", "wait 10;sound;", null);
        t.due("the last one", x.seven(0, 0, 0, 11), 8);
        for (int what = 12; what < 30; what++) {
            t.due("what " + what, x.seven(0, 0, 0, what), NONE);
        }
    }

    /** "NONE: .. or for another what." */
    static void p15AnotherWhat(Telling t) {
        FathomNight x = t.told("plain 0 0 0 9 1 60;plain 0 0 0 9 1 60;", "", "wait 10;sound;", null);
        for (int what = 1; what < 10; what++) {
            t.due("what " + what, x.seven(0, 0, 0, what), NONE);
        }
        t.due("what -1", x.seven(0, 0, 0, -1), NONE);
        for (int what : Telling.FAR_OFF) {
            t.due("far off", x.seven(0, 0, 0, what), NONE);
        }
    }

    /** "NONE: .. there is none such (of any)": a STREET, LAW, ROUND. */
    static void p15NoneSuch(Telling t) {
        FathomNight x = t.told("", "", "", null);
        t.due("street 1", x.seven(1, 0, 0, 0), NONE);
        t.due("law 1", x.seven(0, 1, 0, 0), NONE);
        t.due("round 1", x.seven(0, 0, 1, 0), NONE);
        t.due("street -1", x.seven(-1, 0, 0, 0), NONE);
        t.due("law -1", x.seven(0, -1, 0, 0), NONE);
        t.due("round -1", x.seven(0, 0, -1, 0), NONE);
        for (int far : Telling.FAR_OFF) {
            t.due("far off", x.seven(far, 0, 0, 0), NONE);
            t.due("far off", x.seven(0, far, 0, 0), NONE);
            t.due("far off", x.seven(0, 0, far, 0), NONE);
        }
    }
}
