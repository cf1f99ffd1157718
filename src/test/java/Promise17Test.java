/** Promise 17: sold. */
public final class Promise17Test {
    private static final int NONE = FathomNight.NONE;

    private Promise17Test() {
    }

    public static void main(String[] args) {
        Cases.run(Promise17Test.class, args);
    }

    private static void sold(Telling t, String street, String law, int sum, int... row) {
        FathomNight x = t.told(street, law, null, null);
        t.due("sum of " + street, x.sold(0, 0, 0), sum);
        t.due("houses of " + street, x.sold(0, 0, 1), row.length);
        for (int i = 0; i < row.length; i++) {
            t.due("house " + i + " of " + street, x.sold(0, 0, 10 + i), row[i]);
        }
        t.due("no house behind the last one of " + street, x.sold(0, 0, 10 + row.length), NONE);
    }

    /** "the greatest sum of all CHARGES" */
    static void p17TheGreatestSum(Telling t) {
        // 0 1 2 3: 4 + 12 + 60; 0 2 3: 15 + 60; 0 2 1: 15 + 14.
        sold(t, "houses 4;door 0 1 2;door 1 2 2;door 0 2 5;door 2 3 9;plain 0 0 0 36 1 60;plain 1 0 0 36 2 60;"
                + "plain 2 0 0 36 3 60;plain 3 0 0 36 9 60;", "", 76, 0, 1, 2, 3);
    }

    /** "from HOUSE 0 at UNIT 0 on .. HOUSE 0 sounded first": its CHARGES at UNIT 0 are in the sum, no later ones. */
    static void p17HouseZeroFirst(Telling t) {
        sold(t, "houses 1;plain 0 0 0 36 9 60;", "", 0, 0);
        sold(t, "houses 1;plain 0 0 0 36 9 60;poppy 0 0;", "fine 8;", 8, 0);
        sold(t, "houses 2;door 0 1 1;plain 0 0 0 36 9 60;poppy 0 0;", "fine 8;", 8, 0);
    }

    /** "no HOUSE twice" */
    static void p17NoHouseTwice(Telling t) {
        sold(t, "houses 2;door 0 1 9;plain 0 0 0 36 9 60;plain 1 0 0 36 1 60;", "", 9, 0, 1);
        sold(t, "houses 3;door 0 1 2;door 0 2 2;plain 1 0 0 36 1 60;plain 2 0 0 36 3 60;", "", 6, 0, 2);
    }

    /** "the first such row by numbers" */
    static void p17TheFirstByNumbers(Telling t) {
        sold(t, "houses 3;door 0 1 2;door 0 2 2;plain 1 0 0 36 2 60;plain 2 0 0 36 2 60;", "", 4, 0, 1);
        sold(t, "houses 4;door 0 3 1;door 0 1 1;door 1 2 1;door 3 2 1;plain 2 0 0 36 2 60;", "", 4, 0, 1, 2);
        sold(t, "houses 3;door 0 1 2;door 1 2 2;door 0 2 4;plain 2 0 0 36 2 60;", "", 8, 0, 1, 2);
    }

    /** "a shorter one ahead of a longer one that begins so" */
    static void p17AShorterOneAhead(Telling t) {
        sold(t, "houses 3;door 0 1 2;door 1 2 2;plain 1 0 0 36 2 60;", "", 4, 0, 1);
        sold(t, "houses 3;door 0 1 2;door 1 2 2;", "", 0, 0);
        sold(t, "houses 3;door 0 1 2;door 1 2 2;plain 1 0 0 36 2 60;", "free 1;", 0, 0);
    }

    /** "a row may end at any HOUSE" */
    static void p17EndsAnywhere(Telling t) {
        sold(t, "houses 3;door 0 1 5;door 1 2 5;plain 1 0 0 6 2 60;plain 2 0 0 9 9 60;", "", 10, 0, 1);
    }

    /** "(no CAP" */
    static void p17NoCap(Telling t) {
        sold(t, "houses 2;door 0 1 9;plain 1 0 0 36 9 60;", "cap 1;rate 2 9;", 540, 0, 1);
        sold(t, "houses 2;door 0 1 9;" + "plain 1 0 0 36 9 60;".repeat(9), "rate 2 9;", 9 * 540, 0, 1);
    }

    /** "no CATS)" */
    static void p17NoCats(Telling t) {
        sold(t, "houses 3;door 0 1 9;door 1 2 9;cat 2;plain 2 0 0 36 2 60;", "", 36, 0, 1, 2);
    }

    /** "if that is behind UNIT 35, it can't be": UNIT 35 can. */
    static void p17TheEndOfTheNight(Telling t) {
        String far = "houses 5;door 0 1 9;door 1 2 9;door 2 3 9;plain 4 0 34 36 5 60;";
        sold(t, far + "door 3 4 8;", "", 5, 0, 1, 2, 3, 4);
        sold(t, far + "door 3 4 9;", "", 0, 0);
        // Behind the night nobody is sounded, in whatever HOUSE.
        for (int h = 4; h < 8; h++) {
            String street = "houses 8;door 0 1 9;door 1 2 9;door 2 3 9;plain 4 0 0 36 9 60;plain 5 0 0 36 9 60;plain 6 0 0 36 9 60;"
                    + "plain 7 0 0 36 9 60;door 3 " + h + " ";
            sold(t, street + "8;", "", 60, 0, 1, 2, 3, h);
            sold(t, street + "9;", "", 0, 0);
        }
    }

    /** "the greatest sum": by one coin, at the only UNIT at which it is to be had. */
    static void p17ByOneCoin(Telling t) {
        sold(t, "houses 2;door 0 1 1;plain 1 0 0 2 1 60;", "", 1, 0, 1);
        sold(t, "houses 3;door 0 1 1;door 0 2 1;plain 1 0 0 2 1 60;plain 2 0 0 2 2 60;", "", 2, 0, 2);
        sold(t, "houses 3;door 0 1 1;door 1 2 1;plain 1 0 0 2 1 60;plain 2 0 0 3 1 60;", "", 3, 0, 1, 2);
    }

    /** What was asked before changes nothing. */
    static void p17AskedAgain(Telling t) {
        FathomNight x = t.told("houses 2;door 0 1 1;plain 1 0 0 36 9 60;", "", null, null);
        t.due("another street", Telling.tell(x, 0, NONE, "houses 3;door 0 1 1;door 1 2 1;plain 2 0 0 36 1 60;"), 1);
        for (int i = 0; i < 3; i++) {
            t.due("sum", x.sold(0, 0, 0), 9);
            t.due("houses", x.sold(0, 0, 1), 2);
            t.due("sum of the other", x.sold(1, 0, 0), 2);
            t.due("houses of the other", x.sold(1, 0, 1), 3);
        }
    }

    /** "CHARGES": by MARK, RATE, FINE, shared BEDS, one who STANDS in, no CHILDREN. */
    static void p17Charges(Telling t) {
        sold(t, "houses 2;door 0 1 4;plain 1 0 0 36 1 60;plain 1 0 0 36 3 60;child 1 0 0 36 9 60;poppy 0 4;",
                "mark 2;rate 1 3;fine 5;shared;", 30 + 5 + 30, 0, 1);
        sold(t, "houses 2;door 0 1 4;plain 1 0 0 36 1 60;plain 1 0 0 36 3 60;", "", 4 + 12, 0, 1);
        sold(t, "houses 2;door 0 1 4;rich 1 0 0 36 9 60;plain 1 0 0 36 1 60;stands 1 0;", "", 4 + 4, 0, 1);
    }

    /** "rows of HOUSES": of all eight. */
    static void p17AllHouses(Telling t) {
        StringBuilder street = new StringBuilder("houses 8;");
        for (int h = 0; h < 7; h++) {
            street.append("door ").append(h).append(' ').append(h + 1).append(" 1;");
        }
        street.append("plain 7 0 0 36 1 60;");
        sold(t, street.toString(), "", 7, 0, 1, 2, 3, 4, 5, 6, 7);
    }

    /** "10 + i: the i-th HOUSE": NONE behind the last one; "NONE: .. or for another what." */
    static void p17AnotherWhat(Telling t) {
        FathomNight x = t.told("houses 2;door 0 1 9;plain 1 0 0 36 1 60;", "", null, null);
        t.due("the last one", x.sold(0, 0, 11), 1);
        for (int what = 12; what < 40; what++) {
            t.due("what " + what, x.sold(0, 0, what), NONE);
        }
        for (int what = 2; what < 10; what++) {
            t.due("what " + what, x.sold(0, 0, what), NONE);
        }
        t.due("what -1", x.sold(0, 0, -1), NONE);
        for (int what : Telling.FAR_OFF) {
            t.due("far off", x.sold(0, 0, what), NONE);
        }
    }

    /** "NONE: there is none such (of either)" */
    static void p17NoneSuch(Telling t) {
        FathomNight x = t.told("", "", null, null);
        t.due("street 1", x.sold(1, 0, 0), NONE);
        t.due("street -1", x.sold(-1, 0, 0), NONE);
        t.due("law 1", x.sold(0, 1, 0), NONE);
        t.due("law -1", x.sold(0, -1, 0), NONE);
        for (int far : Telling.FAR_OFF) {
            t.due("far off", x.sold(far, 0, 0), NONE);
            t.due("far off", x.sold(0, far, 0), NONE);
        }
    }
}
