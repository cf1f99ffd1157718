/** Promise 20: went. */
public final class Promise20Test {
    private static final int NONE = FathomNight.NONE;
    /** HOUSE 0 in the midst; a PLAIN one in 1, one in 2, a CHILD in 0. */
    private static final String STREET =
            "houses 3;door 0 1 2;door 0 2 3;plain 1 0 0 36 2 60;plain 2 0 0 36 3 60;child 0 0 0 36 9 60;";

    private Promise20Test() {
    }

    public static void main(String[] args) {
        Cases.run(Promise20Test.class, args);
    }

    private static void went(Telling t, FathomNight x, int n, int house, long due) {
        t.due("went, n " + n + ", house " + house, x.went(0, 0, 0, n, house), due);
    }

    /** "rows of HOUSES (n times go and sound at once, 0 to 7": HOUSES may come again. */
    static void p20AllRows(Telling t) {
        FathomNight x = t.told(STREET, "mark 4;", null, "");
        long[] all = {1, 2, 2, 4, 4, 8, 8, 16};
        for (int n = 0; n <= 7; n++) {
            went(t, x, n, NONE, all[n]);
        }
    }

    /** "0 to 7": none goes, HOUSE 0 is sounded at UNIT 0. */
    static void p20NoGo(Telling t) {
        FathomNight x = t.told("plain 0 0 0 36 9 60;", "", null, "quiet 0;");
        went(t, x, 0, NONE, 1);
        went(t, x, 0, 0, 1);
        went(t, x, 0, 1, 0);
        went(t, t.told("plain 0 0 0 36 9 60;", "", null, "caught 0;"), 0, NONE, 0);
        went(t, t.told("plain 0 0 0 36 9 60;", "", null, ""), 0, NONE, 1);
    }

    /** "from HOUSE 0 at UNIT 0, which is sounded first", and again whenever he comes back. */
    static void p20HouseZeroIsSounded(Telling t) {
        String street = "houses 2;door 0 1 2;plain 0 0 0 36 1 60;";
        FathomNight x = t.told(street, "mark 3;", null, "caught 0;");
        went(t, x, 1, NONE, 0);
        went(t, x, 2, NONE, 1);
        x = t.told(street, "mark 4;", null, "caught 0;");
        went(t, x, 2, NONE, 0);
        went(t, x, 4, NONE, 1);
    }

    /** "0 to 7 .. NONE: .. another n" */
    static void p20AnotherN(Telling t) {
        FathomNight x = t.told(STREET, "mark 4;", null, "");
        went(t, x, 8, NONE, NONE);
        went(t, x, -1, NONE, NONE);
        went(t, x, 8, 0, NONE);
        for (int n : Telling.FAR_OFF) {
            went(t, x, n, NONE, NONE);
        }
    }

    /** "HOUSES may come again": all of eight, by as many rows as there may be. */
    static void p20TheMostRows(Telling t) {
        StringBuilder street = new StringBuilder("houses 8;");
        for (int h = 0; h < 8; h++) {
            for (int k = h + 1; k < 8; k++) {
                street.append("door ").append(h).append(' ').append(k).append(" 1;");
            }
        }
        FathomNight x = t.told(street.toString(), "", null, "");
        went(t, x, 7, NONE, 823543);
        went(t, x, 7, 0, 102942);
        went(t, x, 7, 7, 102943);
    }

    /** "UNIT 35 at most" */
    static void p20UnitThirtyFiveAtMost(Telling t) {
        FathomNight x = t.told("houses 2;door 0 1 7;", "", null, "");
        went(t, x, 5, NONE, 1);
        went(t, x, 6, NONE, 0);
        x = t.told("houses 2;door 0 1 9;", "", null, "");
        went(t, x, 3, NONE, 1);
        went(t, x, 4, NONE, 0);
        x = t.told("houses 3;door 0 1 9;door 1 2 8;", "", null, "");
        // 0 1 0 1 0 would be at 36, 0 1 0 1 2 is at 35.
        went(t, x, 4, NONE, 3);
        went(t, x, 4, 2, 2);
        went(t, x, 4, 0, 1);
        // 0 1 0 1 2 7 is in 7 at 35 from 2 at 34; 0 1 2 1 2 7 and 0 1 2 7 2 7 are there ahead of that.
        String far = "houses 8;door 0 1 9;door 1 2 7;door 2 7 1;plain 7 0 34 36 1 60;";
        went(t, t.told(far, "", null, ""), 5, 7, 3);
        went(t, t.told(far, "", null, "caught 0;"), 5, 7, 1);
        went(t, t.told(far, "", null, "caught 0;"), 5, NONE, 1);
        went(t, t.told(far, "", null, "quiet 0;"), 5, 7, 2);
    }

    /** "each who was told caught had a READING of his own above MARK at least once" */
    static void p20EachCaughtOne(Telling t) {
        FathomNight x = t.told(STREET, "mark 4;", null, "caught 1;");
        went(t, x, 1, NONE, 1);
        went(t, x, 2, NONE, 1);
        went(t, x, 3, NONE, 3);
        x = t.told(STREET, "mark 4;", null, "caught 1;caught 0;");
        went(t, x, 2, NONE, 0);
        // 0 1 0 2: quiet at 2; 0 2 0 1: caught at 3 and at 8.
        went(t, x, 3, NONE, 1);
        went(t, x, 3, 1, 1);
    }

    /** "above MARK": MARK itself is not. */
    static void p20AboveMark(Telling t) {
        String street = "houses 2;door 0 1 4;plain 1 0 0 36 1 60;";
        went(t, t.told(street, "mark 3;", null, "caught 0;"), 1, NONE, 1);
        went(t, t.told(street, "mark 4;", null, "caught 0;"), 1, NONE, 0);
        went(t, t.told(street, "mark 3;", null, "quiet 0;"), 1, NONE, 0);
        went(t, t.told(street, "mark 4;", null, "quiet 0;"), 1, NONE, 1);
    }

    /** "and none told quiet ever" */
    static void p20NoneToldQuiet(Telling t) {
        FathomNight x = t.told(STREET, "mark 4;", null, "caught 1;quiet 0;");
        went(t, x, 1, NONE, 1);
        went(t, x, 2, NONE, 1);
        went(t, x, 3, NONE, 2);
        x = t.told(STREET, "mark 4;", null, "quiet 1;");
        went(t, x, 1, NONE, 1);
        went(t, x, 5, NONE, 1);
    }

    /** Of one who is told caught and quiet too there is no row; the same twice is as once. */
    static void p20CaughtAndQuiet(Telling t) {
        for (int n = 0; n < 8; n++) {
            went(t, t.told(STREET, "mark 4;", null, "caught 1;quiet 1;"), n, NONE, 0);
        }
        went(t, t.told(STREET, "mark 4;", null, "caught 1;".repeat(8)), 3, NONE, 3);
        went(t, t.told(STREET, "mark 4;", null, "quiet 1;".repeat(8)), 3, NONE, 1);
    }

    /** "but CHILDREN": they have no READING, so that they are never caught, and always quiet. */
    static void p20AChild(Telling t) {
        went(t, t.told(STREET, "mark 4;", null, "caught 2;"), 4, NONE, 0);
        went(t, t.told(STREET, "mark 4;", null, "quiet 2;"), 4, NONE, 4);
    }

    /** "a READING of his own": not another one's in his BED; of a RICH one as he is READ. */
    static void p20AReadingOfHisOwn(Telling t) {
        FathomNight x = t.told("houses 2;door 0 1 1;plain 0 0 0 36 9 60;plain 0 0 0 36 1 60;", "mark 3;shared;", null,
                "caught 0;quiet 1;");
        went(t, x, 2, NONE, 1);
        x = t.told("houses 2;door 0 1 1;rich 0 0 0 36 9 60;plain 0 0 0 36 1 60;stands 1 0;", "mark 3;", null, "quiet 0;");
        went(t, x, 2, NONE, 1);
        x = t.told("houses 2;door 0 1 1;plain 0 0 0 36 9 60;", "mark 3;free 0;", null, "caught 0;");
        went(t, x, 2, NONE, 1);
    }

    /** "no CATS" */
    static void p20NoCats(Telling t) {
        FathomNight x = t.told("houses 3;door 0 1 9;door 1 2 9;cat 2;plain 2 0 0 36 2 60;", "mark 20;", null, "caught 0;");
        went(t, x, 2, NONE, 1);
    }

    /** "ENDS at a HOUSE": 0 where none ends. */
    static void p20EndsAtAHouse(Telling t) {
        FathomNight x = t.told(STREET, "mark 4;", null, "");
        went(t, x, 1, 0, 0);
        went(t, x, 1, 1, 1);
        went(t, x, 1, 2, 1);
        went(t, x, 4, 0, 4);
        went(t, x, 4, 1, 0);
    }

    /** "NONE: .. there is none such (of any)": a HOUSE. */
    static void p20NoSuchHouse(Telling t) {
        FathomNight x = t.told(STREET, "mark 4;", null, "");
        went(t, x, 1, 3, NONE);
        went(t, x, 1, 8, NONE);
        went(t, x, 1, -2, NONE);
        for (int house : Telling.FAR_OFF) {
            went(t, x, 1, house, NONE);
        }
    }

    /** "NONE: a SLEEPER told of is not there": caught or quiet. */
    static void p20NoSuchSleeper(Telling t) {
        went(t, t.told(STREET, "", null, "quiet 2;"), 0, NONE, 1);
        for (int k = 3; k < 9; k++) {
            went(t, t.told(STREET, "", null, "quiet " + k + ";"), 0, NONE, NONE);
            went(t, t.told(STREET, "", null, "caught " + k + ";"), 3, 0, NONE);
            went(t, t.told(STREET, "", null, "caught 0;quiet 1;caught " + k + ";"), 3, NONE, NONE);
        }
        went(t, t.told("", "", null, "quiet 0;"), 0, NONE, NONE);
        went(t, t.told("", "", null, ""), 0, NONE, 1);
    }

    /** "NONE: .. there is none such (of any)": a STREET, LAW, CATCH. */
    static void p20NoneSuch(Telling t) {
        FathomNight x = t.told(STREET, "mark 4;", null, "");
        for (int far : new int[] {1, -1, 2, Integer.MAX_VALUE, Integer.MIN_VALUE}) {
            for (int house = -1; house < 1; house++) {
                t.due("street " + far, x.went(far, 0, 0, 1, house), NONE);
                t.due("law " + far, x.went(0, far, 0, 1, house), NONE);
                t.due("catch " + far, x.went(0, 0, far, 1, house), NONE);
            }
        }
    }
}
