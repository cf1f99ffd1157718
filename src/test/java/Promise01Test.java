/** Promise 1: a new object. */
public final class Promise01Test {
    private static final int NONE = FathomNight.NONE;
    private static final String STREET = "houses 2;door 0 1 1;plain 0 0 0 9 1 9;";

    private Promise01Test() {
    }

    public static void main(String[] args) {
        Cases.run(Promise01Test.class, args);
    }

    /** "NONE = -1: There is none." */
    static void p01TheConstant(Telling t) {
        t.due("NONE", NONE, -1);
    }

    /** "No STREETS" */
    static void p01NoStreets(Telling t) {
        FathomNight x = t.told(null, "", "", "");
        t.due("count", x.count(0), 0);
        for (int street = -1; street < 3; street++) {
            t.due("street", x.street(street, 0), NONE);
            t.due("sleeper", x.sleeper(street, 0, 0), -2);
            t.due("wine", x.wine(street, 0, 0), NONE);
            t.due("depth", x.depth(street, 0, 0), -2);
            t.due("stop", x.stop(street, 0), NONE);
            t.due("state", x.state(street, 0, 0, 0, 0), -2);
            t.due("hours", x.hours(street, 0, 0), NONE);
            t.due("seven", x.seven(street, 0, 0, 0), NONE);
            t.due("refuge", x.refuge(street, 0, 0, 0, false), NONE);
            t.due("sold", x.sold(street, 0, 0), NONE);
            t.due("quick", x.quick(street, 0, 0), NONE);
            t.due("went", x.went(street, 0, 0, 0, NONE), NONE);
            t.due("soonest", x.soonest(street, 0, 0, 0), NONE);
            t.due("cats", x.cats(street, true), NONE);
            t.due("standins", x.standins(street, 0, 0, false), NONE);
            t.due("arrears", x.arrears(street, 0, 0, 0, 0), NONE);
            t.due("odds", x.odds(street, 0, 0, true), NONE);
            t.due("drawn", x.drawn(street, 0, 0, 0, 0, 0), NONE);
            t.due("loud", x.loud(street, 0, true), NONE);
            t.due("calm", x.calm(street, 0), NONE);
            t.due("paid", x.paid(street, 0, 0, 0, true), NONE);
            t.due("twice", x.twice(street, 0, 0, 0, true), NONE);
            t.due("share", x.share(street, 0, 0, 0, true), NONE);
            t.due("trip", x.trip(street, 0), NONE);
        }
        t.due("none in whose place", x.text(0, 0), -2);
    }

    /** "No .. LAWS" */
    static void p01NoLaws(Telling t) {
        FathomNight x = t.told(STREET, null, "", "");
        t.due("count", x.count(1), 0);
        for (int law = -1; law < 3; law++) {
            t.due("law", x.law(law, 0), NONE);
            t.due("state", x.state(0, law, 0, 0, 0), -2);
            t.due("seven", x.seven(0, law, 0, 0), NONE);
            t.due("refuge", x.refuge(0, law, 0, 0, false), NONE);
            t.due("sold", x.sold(0, law, 0), NONE);
            t.due("went", x.went(0, law, 0, 0, NONE), NONE);
            t.due("soonest", x.soonest(0, law, 0, 0), NONE);
            t.due("standins", x.standins(0, law, 0, false), NONE);
            t.due("arrears", x.arrears(0, law, 0, 0, 0), NONE);
            t.due("odds", x.odds(0, law, 0, true), NONE);
            t.due("drawn", x.drawn(0, law, 0, 0, 0, 0), NONE);
            t.due("calm", x.calm(0, law), NONE);
            t.due("paid", x.paid(0, law, 0, 0, true), NONE);
            t.due("twice", x.twice(0, law, 0, 0, true), NONE);
            t.due("share", x.share(0, law, 0, 0, true), NONE);
        }
        t.due("none in whose place", x.text(1, 0), -2);
        t.due("stop asks for none", x.stop(0, 0), 0);
        t.due("hours ask for none", x.hours(0, 0, 0), 0);
    }

    /** "No .. ROUNDS" */
    static void p01NoRounds(Telling t) {
        FathomNight x = t.told(STREET, "", null, "");
        t.due("count", x.count(2), 0);
        for (int round = -1; round < 3; round++) {
            t.due("act", x.act(round, NONE, 0), -2);
            t.due("stop", x.stop(0, round), NONE);
            t.due("state", x.state(0, 0, round, 0, 0), -2);
            t.due("hours", x.hours(0, round, 0), NONE);
            t.due("seven", x.seven(0, 0, round, 0), NONE);
            t.due("refuge", x.refuge(0, 0, round, 0, false), NONE);
            t.due("standins", x.standins(0, 0, round, false), NONE);
            t.due("arrears", x.arrears(0, 0, round, 0, 0), NONE);
            t.due("drawn", x.drawn(0, 0, round, 0, 0, 0), NONE);
            t.due("paid", x.paid(0, 0, round, 0, true), NONE);
            t.due("twice", x.twice(0, 0, round, 0, true), NONE);
            t.due("share", x.share(0, 0, round, 0, true), NONE);
        }
        t.due("none in whose place", x.text(2, 0), -2);
    }

    /** "No .. CATCHES" */
    static void p01NoCatches(Telling t) {
        FathomNight x = t.told(STREET, "", "", null);
        t.due("count", x.count(3), 0);
        for (int caught = -1; caught < 3; caught++) {
            t.due("told", x.told(caught, NONE), -2);
            t.due("went", x.went(0, 0, caught, 0, NONE), NONE);
            t.due("soonest", x.soonest(0, 0, caught, 0), NONE);
        }
        t.due("none in whose place", x.text(3, 0), -2);
    }

    /** "no images" */
    static void p01NoImages(Telling t) {
        FathomNight x = t.told(STREET, null, null, null);
        for (int k = 0; k < 3; k++) {
            t.due("again", x.again(k), false);
        }
        t.due("all is as it was", x.street(0, 0), 2);
    }

    /** Nothing was fed yet, so that the tape has no bytes. */
    static void p01TheTapeIsEmpty(Telling t) {
        FathomNight x = new FathomNight();
        t.due("end(1)", x.end(1), NONE);
        t.due("end(0)", x.end(0), 0);
        t.due("the first bytes", x.feed(0, 0, 0, 0, 0), 20);
    }

    /** No text was read yet, so that there is no FAULT. */
    static void p01NoFault(Telling t) {
        FathomNight x = new FathomNight();
        t.due("fault(0)", x.fault(0), 0);
        t.due("fault(1)", x.fault(1), NONE);
    }

    /** "No STREETS, LAWS, ROUNDS, CATCHES; no images", whatever other objects were told. */
    static void p01ObjectsAreApart(Telling t) {
        FathomNight other = t.told(STREET, "mark 3;", "sound;", "quiet 0;");
        Telling.tell(other, 0, NONE, "cat");
        other.image(0);
        other.feed(0, 0, 0, 0, 0);
        FathomNight x = new FathomNight();
        for (int sort = 0; sort < 4; sort++) {
            t.due("count", x.count(sort), 0);
        }
        t.due("again", x.again(0), false);
        t.due("fault", x.fault(0), 0);
        t.due("tape", x.end(1), NONE);
        t.due("told anew", Telling.tell(x, 0, NONE, "houses 7;"), 0);
        t.due("the other one's", other.street(0, 0), 2);
    }
}
