/** Promise 34: image. */
public final class Promise34Test {
    private static final int NONE = FathomNight.NONE;

    private Promise34Test() {
    }

    public static void main(String[] args) {
        Cases.run(Promise34Test.class, args);
    }

    /** "Image k (0 .. 2) is all that is told .. as it is now: true": of a new object too. */
    static void p34OfANewObject(Telling t) {
        for (int k = 0; k < 3; k++) {
            FathomNight x = new FathomNight();
            t.due("image", x.image(k), true);
            Telling.tell(x, 0, NONE, "houses 2;");
            Telling.tell(x, 1, NONE, "x");
            Telling.put(x, "houses 3;", 0);
            t.due("again", x.again(k), true);
            t.due("no street", x.count(0), 0);
            t.due("no fault", x.fault(0), 0);
            t.due("no tape", x.end(1), NONE);
        }
    }

    /** "Image k (0 .. 2)": three, each by itself. */
    static void p34ThreeImages(Telling t) {
        FathomNight x = t.told("houses 1;", null, null, null);
        for (int k = 0; k < 3; k++) {
            Telling.tell(x, 0, 0, "houses " + (k + 2) + ";");
            t.due("image", x.image(k), true);
        }
        for (int k = 2; k >= 0; k--) {
            t.due("again", x.again(k), true);
            t.due("houses", x.street(0, 0), k + 2);
        }
    }

    /** "as it is now": an image taken again is as it is then. */
    static void p34TakenAgain(Telling t) {
        FathomNight x = t.told("houses 2;", null, null, null);
        t.due("image", x.image(2), true);
        Telling.tell(x, 0, 0, "houses 3;");
        t.due("image", x.image(2), true);
        Telling.tell(x, 0, 0, "houses 5;");
        t.due("again", x.again(2), true);
        t.due("houses", x.street(0, 0), 3);
    }

    /** "as it is now": what is told later changes nothing of it. */
    static void p34LaterTextsChangeNothingOfIt(Telling t) {
        FathomNight x = t.told("houses 2;door 0 1 3;plain 0 0 0 9 1 1;wine 0 1;poppy 0 1;", "mark 3;rate 0 2;", "sound;wait 2;",
                "quiet 0;caught 0;");
        t.due("image", x.image(0), true);
        for (int sort = 0; sort < 4; sort++) {
            Telling.tell(x, sort, 0, "");
            Telling.tell(x, sort, NONE, "");
        }
        t.due("again", x.again(0), true);
        t.due("door", x.street(0, 11), 3);
        t.due("poppy", x.sleeper(0, 0, 7), 1);
        t.due("rate", x.law(0, 10), 2);
        t.due("act", x.act(0, 1, 1), 2);
        t.due("row", x.told(0, 1), 10);
        for (int sort = 0; sort < 4; sort++) {
            t.due("count", x.count(sort), 1);
        }
    }

    /** Taking an image changes nothing of what is told. */
    static void p34ChangesNothing(Telling t) {
        FathomNight x = t.told("houses 2;", null, null, null);
        Telling.tell(x, 1, NONE, "cap 0;");
        Telling.put(x, "houses 3;", 0);
        t.due("image", x.image(1), true);
        t.due("fault", x.fault(0), 2);
        t.due("place", x.fault(1), 4);
        t.due("tape", x.text(0, NONE), 1);
        t.due("houses", x.street(1, 0), 3);
        t.due("houses", x.street(0, 0), 2);
    }

    /** "false for another k.": and no image is made. */
    static void p34AnotherK(Telling t) {
        FathomNight x = t.told("houses 2;", null, null, null);
        t.due("image(3)", x.image(3), false);
        t.due("image(-1)", x.image(-1), false);
        for (int k : Telling.FAR_OFF) {
            t.due("far off", x.image(k), false);
            t.due("no image", x.again(k), false);
        }
        for (int k = -1; k < 4; k++) {
            t.due("no image", x.again(k), false);
        }
    }
}
