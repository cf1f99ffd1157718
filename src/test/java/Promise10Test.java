/** Promise 10: law. */
public final class Promise10Test {
    private static final int NONE = FathomNight.NONE;

    private Promise10Test() {
    }

    public static void main(String[] args) {
        Cases.run(Promise10Test.class, args);
    }

    private static void row(Telling t, String law, int... due) {
        FathomNight x = t.told(null, law, null, null);
        for (int what = 0; what < 5; what++) {
            t.due("what " + what + " of " + law, x.law(0, what), due[what]);
        }
    }

    /** "a MARK .. (0 at first), a RATE of each WATCH .. (1), a CAP .. (999), a FINE .. (0), FREE HOUSES (bits, none), BEDS .. (not at first)" */
    static void p10AtFirst(Telling t) {
        row(t, "", 0, 999, 0, 0, 0);
        FathomNight x = t.told(null, "", null, null);
        for (int w = 0; w < 9; w++) {
            t.due("rate " + w, x.law(0, 10 + w), 1);
        }
    }

    /** "a MARK, 0 .. 60", "a CAP, 1 .. 999", "a FINE, 0 .. 99": least and greatest. */
    static void p10LeastAndGreatest(Telling t) {
        row(t, "mark 0;cap 1;fine 0;free 0;", 0, 1, 0, 1, 0);
        row(t, "mark 60;cap 999;fine 99;free 7;shared;", 60, 999, 99, 128, 1);
    }

    /** "a RATE of each WATCH, 0 .. 9": least and greatest, of the first and the last one. */
    static void p10Rates(Telling t) {
        FathomNight x = t.told(null, "rate 0 9;rate 8 0;rate 4 7;", null, null);
        int[] rates = {9, 1, 1, 1, 7, 1, 1, 1, 0};
        for (int w = 0; w < 9; w++) {
            t.due("rate " + w, x.law(0, 10 + w), rates[w]);
        }
    }

    /** "Later ones strike" */
    static void p10LaterOnesStrike(Telling t) {
        row(t, "mark 5;cap 7;fine 9;shared;mark 4;cap 998;fine 0;shared;", 4, 998, 0, 0, 1);
        t.due("rate", t.told(null, "rate 3 9;rate 3 0;rate 3 4;", null, null).law(0, 13), 4);
    }

    /** "but .. FREE HOUSES .. which are further ones": the same one again is there once. */
    static void p10FreeHousesAreFurtherOnes(Telling t) {
        row(t, "free 7;free 0;free 7;", 0, 999, 0, 129, 0);
        row(t, "free 0;free 1;free 2;free 3;free 4;free 5;free 6;free 7;", 0, 999, 0, 255, 0);
    }

    /** "NONE: there is none such" */
    static void p10NoSuchLaw(Telling t) {
        FathomNight x = new FathomNight();
        for (int many = 0; many < 3; many++) {
            t.due("one more than there are", x.law(many, 1), NONE);
            t.due("law -1", x.law(-1, 1), NONE);
            for (int law : Telling.FAR_OFF) {
                t.due("far off", x.law(law, 1), NONE);
            }
            x.text(1, NONE);
        }
        t.due("the last one that is there", x.law(1, 1), 999);
    }

    /** "NONE: .. or for another what." */
    static void p10AnotherWhat(Telling t) {
        FathomNight x = t.told(null, "", null, null);
        for (int what = 5; what < 10; what++) {
            t.due("what " + what, x.law(0, what), NONE);
        }
        t.due("the first rate", x.law(0, 10), 1);
        t.due("the last rate", x.law(0, 18), 1);
        t.due("what 19", x.law(0, 19), NONE);
        t.due("what -1", x.law(0, -1), NONE);
        for (int what : Telling.FAR_OFF) {
            t.due("far off", x.law(0, what), NONE);
        }
    }
}
