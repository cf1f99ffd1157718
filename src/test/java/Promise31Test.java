/** Promise 31: share. */
public final class Promise31Test {
    private static final int NONE = FathomNight.NONE;

    private Promise31Test() {
    }

    public static void main(String[] args) {
        Cases.run(Promise31Test.class, args);
    }

    private static void share(Telling t, FathomNight x, int house, int above, int under) {
        t.due("above of " + house, x.share(0, 0, 0, house, false), above);
        t.due("under of " + house, x.share(0, 0, 0, house, true), under);
    }

    /** "DUE of its SLEEPERS in a ROUND as a part of that of all, a fraction in least terms" */
    static void p31InLeastTerms(Telling t) {
        FathomNight x = t.told("houses 3;door 0 1 2;door 1 2 1;plain 0 0 0 36 4 60;plain 1 0 0 36 2 60;plain 0 0 0 36 2 60;"
                + "plain 2 0 0 36 1 60;", "", "wait 1;sound;go 1;sound;go 2;sound;", null);
        // 6, 6 and 4 due.
        share(t, x, 0, 3, 8);
        share(t, x, 1, 3, 8);
        share(t, x, 2, 1, 4);
    }

    /** "as a part of that of all": all of it. */
    static void p31All(Telling t) {
        FathomNight x = t.told("plain 0 0 0 36 4 60;plain 0 0 0 36 7 60;plain 1 0 0 36 9 60;", "", "wait 1;sound;", null);
        share(t, x, 0, 1, 1);
        share(t, t.told("plain 0 0 0 36 1 60;", "", "wait 1;sound;", null), 0, 1, 1);
    }

    /** "as a part of that of all": by one coin. */
    static void p31OneCoin(Telling t) {
        FathomNight x = t.told("houses 2;door 0 1 1;plain 0 0 0 36 1 60;plain 1 0 0 36 1 60;", "", "wait 1;sound;go 1;sound;", null);
        share(t, x, 0, 1, 3);
        share(t, x, 1, 2, 3);
    }

    /** "in least terms": nothing of it, in a HOUSE where nothing is due, is 0 by 1. */
    static void p31NothingOfIt(Telling t) {
        FathomNight x = t.told("plain 0 0 0 36 4 60;plain 0 0 0 36 7 60;plain 1 0 0 36 9 60;", "", "wait 1;sound;", null);
        share(t, x, 1, 0, 1);
        share(t, x, 3, 0, 1);
    }

    /** "(0 by 1, if nothing is due)" */
    static void p31NothingIsDue(Telling t) {
        share(t, t.told("plain 0 0 0 36 4 60;", "mark 60;", "wait 1;sound;", null), 0, 0, 1);
        share(t, t.told("plain 0 0 0 36 4 60;", "", "", null), 0, 0, 1);
        share(t, t.told("", "", "sound;", null), 3, 0, 1);
        share(t, t.told("plain 0 0 0 36 4 60;", "", "begin 7 3;sound;", null), 0, 0, 1);
    }

    /** "DUE": each one's by the CAP; the most of all. */
    static void p31ByTheCap(Telling t) {
        FathomNight x = t.told("houses 2;door 0 1 1;plain 0 0 0 36 9 60;plain 1 0 0 36 1 60;", "cap 5;", "wait 1;sound;go 1;sound;", null);
        share(t, x, 0, 5, 7);
        share(t, x, 1, 2, 7);
        x = t.told("houses 2;door 0 1 1;" + "plain 0 0 0 36 9 60;".repeat(8) + "plain 1 0 0 36 9 60;", "rate 1 9;rate 2 9;",
                "wait 7;sound;sound;go 1;sound;", null);
        // 540 by 8532.
        share(t, x, 1, 5, 79);
    }

    /** "DUE of its SLEEPERS in a ROUND": up to STOP. */
    static void p31UpToStop(Telling t) {
        FathomNight x = t.told("houses 2;door 0 1 1;plain 0 0 0 36 1 60;plain 1 0 0 36 1 60;", "",
                "wait 1;sound;go 1;sound;go 1;go 0;sound;", null);
        share(t, x, 0, 1, 3);
    }

    /** "NONE: there is none such (of any)": a HOUSE. */
    static void p31NoSuchHouse(Telling t) {
        FathomNight x = t.told("houses 2;plain 0 0 0 36 4 60;", "", "wait 1;sound;", null);
        share(t, x, 1, 0, 1);
        for (int house : new int[] {2, 3, 7, 8, -1, Integer.MAX_VALUE, Integer.MIN_VALUE}) {
            share(t, x, house, NONE, NONE);
        }
    }

    /** "NONE: there is none such (of any)": a STREET, LAW, ROUND. */
    static void p31NoneSuch(Telling t) {
        FathomNight x = t.told("plain 0 0 0 36 4 60;", "", "wait 1;sound;", null);
        for (int far : new int[] {1, -1, 2, Integer.MAX_VALUE, Integer.MIN_VALUE}) {
            for (boolean under : new boolean[] {false, true}) {
                t.due("street " + far, x.share(far, 0, 0, 0, under), NONE);
                t.due("law " + far, x.share(0, far, 0, 0, under), NONE);
                t.due("round " + far, x.share(0, 0, far, 0, under), NONE);
            }
        }
    }
}
