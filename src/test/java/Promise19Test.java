/** Promise 19: told. */
public final class Promise19Test {
    private static final int NONE = FathomNight.NONE;

    private Promise19Test() {
    }

    public static void main(String[] args) {
        Cases.run(Promise19Test.class, args);
    }

    /** "How many rows (k NONE)": none and eight. */
    static void p19HowManyRows(Telling t) {
        t.due("none", t.told(null, null, null, "").told(0, NONE), 0);
        t.due("one", t.told(null, null, null, "quiet 0;").told(0, NONE), 1);
        t.due("eight", t.told(null, null, null, "quiet 0;caught 0;".repeat(4)).told(0, NONE), 8);
    }

    /** "row k: 10 for caught, and the SLEEPER": SLEEPERS 0 and 8, the eighth row. */
    static void p19Rows(Telling t) {
        FathomNight x = t.told(null, null, null, "caught 8;quiet 0;quiet 8;caught 0;caught 5;quiet 5;quiet 1;caught 7;");
        int[] rows = {18, 0, 8, 10, 15, 5, 1, 17};
        for (int k = 0; k < 8; k++) {
            t.due("row " + k, x.told(0, k), rows[k]);
        }
    }

    /** "but .. a CATCH's rows, which are further ones": the same again, or another thing of the same one. */
    static void p19RowsAreFurtherOnes(Telling t) {
        FathomNight x = t.told(null, null, null, "caught 3;caught 3;quiet 3;");
        int[] rows = {13, 13, 3};
        t.due("rows", x.told(0, NONE), 3);
        for (int k = 0; k < 3; k++) {
            t.due("row " + k, x.told(0, k), rows[k]);
        }
    }

    /** "-2: there is none such (of either)": a row. */
    static void p19NoSuchRow(Telling t) {
        FathomNight x = t.told(null, null, null, "caught 8;quiet 2;");
        t.due("the last one", x.told(0, 1), 2);
        t.due("row 2", x.told(0, 2), -2);
        t.due("row 8", x.told(0, 8), -2);
        t.due("row -2", x.told(0, -2), -2);
        for (int k : Telling.FAR_OFF) {
            t.due("far off", x.told(0, k), -2);
        }
        t.due("of none", t.told(null, null, null, "").told(0, 0), -2);
        t.due("behind eight", t.told(null, null, null, "quiet 0;".repeat(8)).told(0, 8), -2);
    }

    /** "-2: there is none such (of either)": a CATCH. */
    static void p19NoSuchCatch(Telling t) {
        FathomNight x = new FathomNight();
        for (int many = 0; many < 3; many++) {
            t.due("one more than there are", x.told(many, NONE), -2);
            t.due("catch -1", x.told(-1, NONE), -2);
            for (int caught : Telling.FAR_OFF) {
                t.due("far off", x.told(caught, NONE), -2);
                t.due("far off", x.told(caught, 0), -2);
            }
            Telling.tell(x, 3, NONE, "quiet 4;");
        }
        t.due("the last one that is there", x.told(1, 0), 4);
    }
}
