/** Promise 3: end. */
public final class Promise03Test {
    private static final int NONE = FathomNight.NONE;

    private Promise03Test() {
    }

    public static void main(String[] args) {
        Cases.run(Promise03Test.class, args);
    }

    private static FathomNight fed(String text) {
        FathomNight x = new FathomNight();
        Telling.put(x, text, 0);
        return x;
    }

    /** "The tape has its first n bytes alone: n." */
    static void p03TheFirstBytesAlone(Telling t) {
        FathomNight x = fed("cat 0;cat 1;cat 2;  ");
        t.due("end(12)", x.end(12), 12);
        t.due("text", x.text(0, NONE), 0);
        t.due("cats", x.street(0, 1), 3);
    }

    /** "its first n bytes": all of them. */
    static void p03AllThatItHas(Telling t) {
        FathomNight x = fed("cat 0;cat 1;cat 2;;;");
        t.due("end(20)", x.end(20), 20);
        t.due("text", x.text(0, NONE), NONE);
        t.due("place", x.fault(1), 18);
        x = fed(" ".repeat(600));
        t.due("of a full tape", x.end(600), 600);
    }

    /** "its first n bytes": none of them. */
    static void p03None(Telling t) {
        FathomNight x = fed("cat 0;cat 1;cat 2;;;");
        t.due("end(0)", x.end(0), 0);
        t.due("nothing is left", x.end(1), NONE);
        t.due("text", x.text(0, NONE), 0);
        t.due("cats", x.street(0, 1), 0);
        t.due("of an empty tape", x.end(0), 0);
    }

    /** "NONE if it has not so many": one more, and the tape stays. */
    static void p03NotSoMany(Telling t) {
        FathomNight x = fed("cat 0;cat 1;cat 2;  ");
        t.due("end(21)", x.end(21), NONE);
        t.due("end(600)", x.end(600), NONE);
        t.due("end(greatest)", x.end(Integer.MAX_VALUE), NONE);
        t.due("20 are there", x.end(20), 20);
        t.due("text", x.text(0, NONE), 0);
        t.due("cats", x.street(0, 1), 7);
        t.due("of an empty tape", x.end(1), NONE);
        x = fed(" ".repeat(600));
        t.due("of a full tape", x.end(601), NONE);
        t.due("600 are there", x.end(600), 600);
    }

    /** "NONE if it has not so many": what was cut does not come again. */
    static void p03CutBytesAreGone(Telling t) {
        FathomNight x = fed("cat 0;cat 1;cat 2;  ");
        t.due("end(12)", x.end(12), 12);
        t.due("end(13)", x.end(13), NONE);
        t.due("end(12)", x.end(12), 12);
        t.due("end(6)", x.end(6), 6);
        t.due("end(12)", x.end(12), NONE);
    }

    /** "its first n bytes alone": those behind them are not read, be they blanks, letters, digits or a ;. */
    static void p03CutBytesAreNotRead(Telling t) {
        String text = "cap 1234; ";
        int[] places = {NONE, 0, 0, 3, 4, 5, 6, 7, 4};
        for (int n = 1; n <= 8; n++) {
            FathomNight x = fed(text);
            t.due("end", x.end(n), n);
            t.due("text", x.text(1, NONE), NONE);
            t.due("place of " + n + " bytes", x.fault(1), places[n]);
        }
        FathomNight x = fed("cap 123;cap 4;");
        x.end(8);
        t.due("text", x.text(1, NONE), 0);
        t.due("cap", x.law(0, 1), 123);
        x = fed("cat 3;");
        x.end(5);
        t.due("without its ;", x.text(0, NONE), NONE);
        t.due("place", x.fault(1), 5);
    }

    /** "NONE if .. n is below 0", and the tape stays. */
    static void p03BelowNone(Telling t) {
        FathomNight x = fed("cat 0;cat 1;cat 2;  ");
        t.due("end(-1)", x.end(-1), NONE);
        t.due("end(-20)", x.end(-20), NONE);
        t.due("end(least)", x.end(Integer.MIN_VALUE), NONE);
        t.due("20 are there", x.end(20), 20);
        t.due("text", x.text(0, NONE), 0);
        t.due("cats", x.street(0, 1), 7);
        t.due("of an empty tape", x.end(-1), NONE);
    }

    /** The FAULT is that of the latest text(): end changes nothing of it. */
    static void p03TheFaultStays(Telling t) {
        FathomNight x = new FathomNight();
        Telling.tell(x, 1, NONE, "mark 3;cap 0;");
        x.end(0);
        x.end(1);
        t.due("FAULT", x.fault(0), 2);
        t.due("place", x.fault(1), 11);
    }
}
