/** Promise 12: stop; with the ACTS that can't be of Term 2. */
public final class Promise12Test {
    private static final int NONE = FathomNight.NONE;
    private static final String STREET = "houses 3;door 0 1 9;door 1 2 1;";

    private Promise12Test() {
    }

    public static void main(String[] args) {
        Cases.run(Promise12Test.class, args);
    }

    private static void stops(Telling t, String round, int stop) {
        t.due("stop of " + round, t.told(STREET, null, round, null).stop(0, 0), stop);
    }

    /** "STOP: .. else how many there are": none, all, forty. */
    static void p12AllCanBe(Telling t) {
        stops(t, "", 0);
        stops(t, "sound;", 1);
        stops(t, "sound;go 1;go 2;sound;", 4);
        stops(t, "sound;".repeat(40), 40);
        stops(t, "wait 1;".repeat(35), 35);
    }

    /** "STOP: the first ACT that can't be": though later ones could. */
    static void p12TheFirstThatCant(Telling t) {
        stops(t, "go 2;sound;sound;", 0);
        stops(t, "sound;go 2;sound;go 1;", 1);
        stops(t, "sound;sound;go 2;go 2;", 2);
        stops(t, "wait 1;".repeat(35) + "wait 1;sound;", 35);
        stops(t, "sound;".repeat(39) + "go 0;", 39);
    }

    /** "An ACT that can't be: .. go without a DOOR" */
    static void p12GoWithoutADoor(Telling t) {
        stops(t, "go 2;", 0);
        stops(t, "go 1;go 2;go 0;", 2);
        stops(t, "go 0;", 0);
        stops(t, "go 1;go 1;", 1);
    }

    /** "through a DOOR of the HOUSE he is in": both ways. */
    static void p12ADoorBothWays(Telling t) {
        stops(t, "go 1;go 0;go 1;go 2;go 1;go 2;", 6);
        stops(t, "begin 2 0;go 1;go 0;", 2);
    }

    /** "An ACT that can't be: .. to no such HOUSE" */
    static void p12GoToNoSuchHouse(Telling t) {
        for (int h = 3; h < 8; h++) {
            stops(t, "sound;go " + h + ";sound;", 1);
        }
    }

    /** "if that is behind UNIT 35, it can't be": go; UNIT 35 itself can. */
    static void p12GoBehindTheNight(Telling t) {
        stops(t, "begin 0 26;go 1;sound;", 2);
        stops(t, "begin 0 27;go 1;sound;", 0);
        stops(t, "begin 1 34;go 2;sound;", 2);
        stops(t, "begin 1 35;go 2;sound;", 0);
        stops(t, "wait 26;go 1;go 2;", 2);
    }

    /** "wait: UNITS pass (likewise)" */
    static void p12WaitBehindTheNight(Telling t) {
        stops(t, "wait 35;sound;", 2);
        stops(t, "wait 35;wait 1;sound;", 1);
        stops(t, "begin 0 1;wait 35;", 0);
        stops(t, "begin 0 1;wait 34;sound;", 2);
        stops(t, "begin 0 35;wait 1;", 0);
        stops(t, "begin 0 35;sound;sound;wait 1;", 2);
    }

    /** "if there is no such HOUSE, no ACT can be": not even sound or wait. */
    static void p12BeginsInNoSuchHouse(Telling t) {
        for (int h = 3; h < 8; h++) {
            stops(t, "begin " + h + " 0;sound;wait 1;go 0;", 0);
        }
        stops(t, "begin 2 0;sound;wait 1;go 1;", 3);
        stops(t, "begin 3 0;sound;begin 2 0;", 1);
    }

    /** "NONE: there is none such (of any)": a STREET. */
    static void p12NoSuchStreet(Telling t) {
        FathomNight x = t.told(STREET, null, "sound;", null);
        t.due("street 1", x.stop(1, 0), NONE);
        t.due("street -1", x.stop(-1, 0), NONE);
        for (int street : Telling.FAR_OFF) {
            t.due("far off", x.stop(street, 0), NONE);
        }
    }

    /** "NONE: there is none such (of any)": a ROUND. */
    static void p12NoSuchRound(Telling t) {
        FathomNight x = t.told(STREET, null, "sound;", null);
        t.due("round 1", x.stop(0, 1), NONE);
        t.due("round -1", x.stop(0, -1), NONE);
        for (int round : Telling.FAR_OFF) {
            t.due("far off", x.stop(0, round), NONE);
        }
    }

    /** The same ROUND in another STREET stops elsewhere. */
    static void p12OfTheStreetAsked(Telling t) {
        FathomNight x = t.told(STREET, null, "go 1;", null);
        t.due("another street", Telling.tell(x, 0, NONE, ""), 1);
        t.due("another round", Telling.tell(x, 2, NONE, "sound;go 2;"), 1);
        t.due("0 0", x.stop(0, 0), 1);
        t.due("1 0", x.stop(1, 0), 0);
        t.due("0 1", x.stop(0, 1), 1);
    }
}
