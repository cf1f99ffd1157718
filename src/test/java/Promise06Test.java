/** Promise 6: street. */
public final class Promise06Test {
    private static final int NONE = FathomNight.NONE;

    private Promise06Test() {
    }

    public static void main(String[] args) {
        Cases.run(Promise06Test.class, args);
    }

    /** "what 0: HOUSES, 1: CATS (bits), 2: SLEEPERS, 3: WINE" */
    static void p06OfAStreet(Telling t) {
        FathomNight x = t.told("houses 3;door 2 0 9;cat 2;cat 0;plain 0 0 0 9 1 1;rich 0 0 0 9 1 1;wine 0 1;wine 0 1;wine 1 1;",
                null, null, null);
        int[] due = {3, 5, 2, 3};
        for (int what = 0; what < 4; what++) {
            t.due("what " + what, x.street(0, what), due[what]);
        }
    }

    /** "(4 at first)", "(bits, none at first)": a STREET of which nothing is told. */
    static void p06AtFirst(Telling t) {
        FathomNight x = t.told("", null, null, null);
        int[] due = {4, 0, 0, 0};
        for (int what = 0; what < 4; what++) {
            t.due("what " + what, x.street(0, what), due[what]);
        }
        for (int h = 0; h < 4; h++) {
            for (int k = 0; k < 4; k++) {
                t.due("no door " + h + " " + k, x.street(0, 10 + 8 * h + k), 0);
            }
        }
    }

    /** "HOUSES 0 .. 7, as many as are told, 1 to 8": the fewest and the most of all. */
    static void p06FewestAndMost(Telling t) {
        FathomNight x = t.told("houses 1;cat 0;", null, null, null);
        t.due("one house", x.street(0, 0), 1);
        t.due("its cat", x.street(0, 1), 1);
        StringBuilder most = new StringBuilder("houses 8;");
        for (int h = 0; h < 8; h++) {
            most.append("cat ").append(h).append(';');
        }
        most.append("plain 7 3 35 36 9 60;".repeat(9)).append("wine 8 35;".repeat(8));
        t.due("text", Telling.tell(x, 0, NONE, most.toString()), 1);
        int[] due = {8, 255, 9, 8};
        for (int what = 0; what < 4; what++) {
            t.due("what " + what, x.street(1, what), due[what]);
        }
    }

    /** "Later ones strike": of houses the latest stands. */
    static void p06LaterHousesStrike(Telling t) {
        t.due("the latest", t.told("houses 8;houses 2;houses 5;", null, null, null).street(0, 0), 5);
    }

    /** "but CATS .. which are further ones": the same one again is there once. */
    static void p06CatsAreFurtherOnes(Telling t) {
        t.due("bits", t.told("cat 1;cat 3;cat 1;", null, null, null).street(0, 1), 10);
    }

    /** "but .. SLEEPERS, WINE .. which are further ones": the same one again is another one. */
    static void p06SleepersAndWineAreFurtherOnes(Telling t) {
        FathomNight x = t.told("plain 0 0 0 9 1 1;plain 0 0 0 9 1 1;wine 1 1;wine 1 1;", null, null, null);
        t.due("sleepers", x.street(0, 2), 2);
        t.due("wine", x.street(0, 3), 2);
    }

    /** "10 + 8 * h + k: UNITS of the DOOR of HOUSES h and k (0 none)": both ways, 1 to 9. */
    static void p06Doors(Telling t) {
        FathomNight x = t.told("houses 8;door 0 7 1;door 7 6 9;door 3 4 5;", null, null, null);
        int[][] doors = new int[8][8];
        doors[0][7] = 1;
        doors[7][0] = 1;
        doors[6][7] = 9;
        doors[7][6] = 9;
        doors[3][4] = 5;
        doors[4][3] = 5;
        for (int h = 0; h < 8; h++) {
            for (int k = 0; k < 8; k++) {
                t.due("door " + h + " " + k, x.street(0, 10 + 8 * h + k), doors[h][k]);
            }
        }
    }

    /** "Later ones strike (so of a DOOR of the same two ..)", told in either order. */
    static void p06ALaterDoorStrikes(Telling t) {
        FathomNight x = t.told("door 2 0 9;door 0 2 4;door 0 1 5;door 0 1 6;", null, null, null);
        t.due("0 2", x.street(0, 12), 4);
        t.due("2 0", x.street(0, 26), 4);
        t.due("0 1", x.street(0, 11), 6);
        t.due("1 0", x.street(0, 18), 6);
    }

    /** "NONE: there is none such (of any)": a HOUSE of a DOOR that is not there. */
    static void p06NoSuchHouse(Telling t) {
        FathomNight x = t.told("houses 3;door 0 2 4;", null, null, null);
        for (int h = 0; h < 8; h++) {
            for (int k = 0; k < 8; k++) {
                if (h > 2 || k > 2) {
                    t.due("door " + h + " " + k, x.street(0, 10 + 8 * h + k), NONE);
                }
            }
        }
        t.due("the last one that is there", x.street(0, 10 + 8 * 2), 4);
    }

    /** "NONE: there is none such": a STREET. */
    static void p06NoSuchStreet(Telling t) {
        FathomNight x = new FathomNight();
        for (int many = 0; many < 3; many++) {
            t.due("one more than there are", x.street(many, 0), NONE);
            t.due("street -1", x.street(-1, 0), NONE);
            for (int street : Telling.FAR_OFF) {
                t.due("far off", x.street(street, 0), NONE);
            }
            x.text(0, NONE);
        }
        t.due("the last one that is there", x.street(1, 0), 4);
    }

    /** "NONE: .. or for another what." */
    static void p06AnotherWhat(Telling t) {
        FathomNight x = t.told("houses 8;door 6 7 9;", null, null, null);
        for (int what = 4; what < 10; what++) {
            t.due("what " + what, x.street(0, what), NONE);
        }
        t.due("the first of the doors", x.street(0, 10), 0);
        t.due("the last of the doors", x.street(0, 73), 0);
        t.due("what 74", x.street(0, 74), NONE);
        t.due("what -1", x.street(0, -1), NONE);
        for (int what : Telling.FAR_OFF) {
            t.due("far off", x.street(0, what), NONE);
        }
    }
}
