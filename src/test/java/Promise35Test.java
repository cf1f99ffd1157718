/** Promise 35: again. */
public final class Promise35Test {
    private static final int NONE = FathomNight.NONE;

    private Promise35Test() {
    }

    public static void main(String[] args) {
        Cases.run(Promise35Test.class, args);
    }

    private static FathomNight full(Telling t) {
        return t.told("houses 2;cat 1;door 0 1 3;plain 0 1 2 9 3 4;rich 0 1 2 9 3 4;wine 0 6;poppy 0 7;stands 0 1;",
                "mark 3;cap 8;fine 9;rate 2 5;shared;free 1;", "begin 1 2;sound;wait 2;go 0;", "quiet 1;caught 0;");
    }

    private static void isFull(Telling t, FathomNight x) {
        for (int sort = 0; sort < 4; sort++) {
            t.due("count", x.count(sort), 1);
        }
        int[] street = {2, 2, 2, 1};
        for (int what = 0; what < 4; what++) {
            t.due("street " + what, x.street(0, what), street[what]);
        }
        t.due("door", x.street(0, 11), 3);
        int[] sleeper = {0, 0, 1, 2, 9, 3, 4, 7, 1, 11};
        for (int what = 0; what < 10; what++) {
            t.due("sleeper " + what, x.sleeper(0, 0, what), sleeper[what]);
        }
        t.due("manner of the other one", x.sleeper(0, 1, 0), 3);
        t.due("wine", x.wine(0, 0, 0), 0);
        t.due("wine", x.wine(0, 0, 1), 6);
        int[] law = {3, 8, 9, 2, 1};
        for (int what = 0; what < 5; what++) {
            t.due("law " + what, x.law(0, what), law[what]);
        }
        t.due("rate", x.law(0, 12), 5);
        int[] round = {3, 1, 2};
        for (int what = 0; what < 3; what++) {
            t.due("round " + what, x.act(0, NONE, what), round[what]);
        }
        t.due("act", x.act(0, 1, 0), 2);
        t.due("act", x.act(0, 1, 1), 2);
        t.due("rows", x.told(0, NONE), 2);
        t.due("row", x.told(0, 1), 10);
    }

    /** "All that is as image k has it": STREETS, LAWS, ROUNDS, CATCHES, whatever came in their place. */
    static void p35AllThatIsTold(Telling t) {
        FathomNight x = full(t);
        x.image(1);
        for (int sort = 0; sort < 4; sort++) {
            Telling.tell(x, sort, 0, "");
        }
        t.due("again", x.again(1), true);
        isFull(t, x);
    }

    /** "All that is as image k has it": of further ones nothing is left; fewer become as many as they were. */
    static void p35HowManyThereAre(Telling t) {
        FathomNight x = full(t);
        x.image(0);
        for (int sort = 0; sort < 4; sort++) {
            Telling.tell(x, sort, NONE, "");
        }
        x.image(1);
        t.due("again", x.again(0), true);
        isFull(t, x);
        t.due("no street 1", x.street(1, 0), NONE);
        t.due("a further one", x.text(0, NONE), 1);
        t.due("again", x.again(1), true);
        for (int sort = 0; sort < 4; sort++) {
            t.due("count", x.count(sort), 2);
        }
        t.due("street 1", x.street(1, 0), 4);
    }

    /** "All that is as image k has it": of both of each sort, as full as they may be. */
    static void p35BothOfEachSort(Telling t) {
        FathomNight x = full(t);
        String nine = "houses 8;rich 7 0 0 9 1 1;" + "plain 0 0 0 9 1 1;".repeat(7) + "rich 7 3 2 30 7 50;poppy 8 5;stands 8 0;"
                + "wine 0 0;".repeat(7) + "wine 8 29;door 6 7 9;cat 7;";
        String[] texts = {nine, "rate 8 9;free 7;", "sound;".repeat(39) + "go 7;", "quiet 1;".repeat(7) + "caught 8;"};
        for (int sort = 0; sort < 4; sort++) {
            t.due("text", Telling.tell(x, sort, NONE, texts[sort]), 1);
        }
        x.image(2);
        for (int sort = 0; sort < 4; sort++) {
            Telling.tell(x, sort, 0, "");
            Telling.tell(x, sort, 1, "");
        }
        t.due("again", x.again(2), true);
        int[] sleeper = {3, 7, 3, 2, 30, 7, 50, 5, 0, 32};
        for (int what = 0; what < 10; what++) {
            t.due("sleeper " + what, x.sleeper(1, 8, what), sleeper[what]);
        }
        t.due("wine", x.wine(1, 7, 1), 29);
        t.due("door", x.street(1, 10 + 8 * 7 + 6), 9);
        t.due("cats", x.street(1, 1), 128);
        t.due("rate", x.law(1, 18), 9);
        t.due("free", x.law(1, 3), 128);
        t.due("act", x.act(1, 39, 1), 7);
        t.due("row", x.told(1, 7), 18);
        t.due("houses of the first", x.street(0, 0), 2);
        t.due("mark of the first", x.law(0, 0), 3);
        t.due("acts of the first", x.act(0, NONE, 0), 3);
        t.due("rows of the first", x.told(0, NONE), 2);
    }

    /** "(the tape .. too)": how long it is, and its bytes. */
    static void p35TheTape(Telling t) {
        FathomNight x = new FathomNight();
        Telling.put(x, "houses 3;", 0);
        x.image(0);
        x.text(0, NONE);
        Telling.put(x, "houses 5;cat 2;", 0);
        t.due("again", x.again(0), true);
        t.due("no byte more", x.end(10), NONE);
        t.due("text", x.text(0, NONE), 0);
        t.due("houses", x.street(0, 0), 3);
        t.due("cats", x.street(0, 1), 0);
        Telling.put(x, " ".repeat(600), 0);
        x.image(1);
        x.end(0);
        t.due("again", x.again(1), true);
        t.due("a full tape", x.feed(0, 0, 0, 0, 0), NONE);
        x.end(0);
        Telling.put(x, " ".repeat(594) + "cat 3;", 0);
        x.image(2);
        x.text(0, 0);
        Telling.put(x, "x".repeat(600), 0);
        t.due("again", x.again(2), true);
        t.due("its last byte too", x.text(0, 0), 0);
        t.due("cats", x.street(0, 1), 8);
    }

    /** "(.. the FAULT, too)" */
    static void p35TheFault(Telling t) {
        FathomNight x = new FathomNight();
        x.image(0);
        Telling.tell(x, 1, NONE, "mark 5;cap 0;");
        x.image(1);
        Telling.tell(x, 1, NONE, "x");
        t.due("again", x.again(1), true);
        t.due("FAULT", x.fault(0), 2);
        t.due("place", x.fault(1), 11);
        t.due("again", x.again(0), true);
        t.due("FAULT", x.fault(0), 0);
        t.due("place", x.fault(1), NONE);
    }

    /** "(other images stay)", and so does image k. */
    static void p35ImagesStay(Telling t) {
        FathomNight x = new FathomNight();
        for (int k = 0; k < 3; k++) {
            Telling.tell(x, 0, k == 0 ? NONE : 0, "houses " + (k + 2) + ";");
            x.image(k);
        }
        for (int i = 0; i < 9; i++) {
            int k = i * 2 % 3;
            t.due("again", x.again(k), true);
            t.due("houses", x.street(0, 0), k + 2);
            Telling.tell(x, 0, 0, "houses 7;");
        }
    }

    /** "(other images stay)": one that was taken later is there behind an earlier one too. */
    static void p35LaterImagesStay(Telling t) {
        FathomNight x = new FathomNight();
        x.image(0);
        Telling.tell(x, 0, NONE, "houses 7;");
        x.image(1);
        t.due("again", x.again(0), true);
        t.due("none", x.count(0), 0);
        t.due("again", x.again(1), true);
        t.due("houses", x.street(0, 0), 7);
    }

    /** "false if there is none such.": one that was not taken, and nothing changes. */
    static void p35NoneSuch(Telling t) {
        FathomNight x = full(t);
        for (int k = 0; k < 3; k++) {
            t.due("again", x.again(k), false);
        }
        isFull(t, x);
        x.image(1);
        t.due("image 0", x.again(0), false);
        t.due("image 2", x.again(2), false);
        t.due("image 1", x.again(1), true);
        isFull(t, x);
    }

    /** "false if there is none such.": another k. */
    static void p35AnotherK(Telling t) {
        FathomNight x = full(t);
        for (int k = 0; k < 3; k++) {
            x.image(k);
        }
        t.due("again(3)", x.again(3), false);
        t.due("again(-1)", x.again(-1), false);
        for (int k : Telling.FAR_OFF) {
            t.due("far off", x.again(k), false);
        }
        isFull(t, x);
    }
}
