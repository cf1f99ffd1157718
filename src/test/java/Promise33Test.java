/** Promise 33: count. */
public final class Promise33Test {
    private static final int NONE = FathomNight.NONE;

    private Promise33Test() {
    }

    public static void main(String[] args) {
        Cases.run(Promise33Test.class, args);
    }

    private static void counts(Telling t, FathomNight x, int... due) {
        for (int sort = 0; sort < 4; sort++) {
            t.due("count " + sort, x.count(sort), due[sort]);
        }
    }

    /** "How many there are of a sort.": none, one, two, each sort by itself. */
    static void p33OfEachSort(Telling t) {
        FathomNight x = new FathomNight();
        int[] due = new int[4];
        counts(t, x, due);
        for (int many = 1; many < 3; many++) {
            for (int sort = 0; sort < 4; sort++) {
                x.text(sort, NONE);
                due[sort] = many;
                counts(t, x, due);
            }
        }
    }

    /** "STREETS, at most 2": a third text, or one in the place of another, makes no more. */
    static void p33AtMostTwo(Telling t) {
        FathomNight x = new FathomNight();
        for (int sort = 0; sort < 4; sort++) {
            x.text(sort, NONE);
            x.text(sort, 0);
            t.due("one in its place", x.count(sort), 1);
            x.text(sort, NONE);
            x.text(sort, NONE);
            x.text(sort, 1);
            t.due("two", x.count(sort), 2);
        }
    }

    /** A text with a FAULT, or that is not read, makes no more. */
    static void p33RefusedTexts(Telling t) {
        FathomNight x = new FathomNight();
        for (int sort = 0; sort < 4; sort++) {
            Telling.tell(x, sort, NONE, "x");
            x.text(sort, 0);
            x.text(sort, 1);
            x.text(sort, -2);
        }
        x.text(4, NONE);
        x.text(-1, NONE);
        counts(t, x, 0, 0, 0, 0);
    }

    /** "-2 for another one." */
    static void p33AnotherSort(Telling t) {
        FathomNight x = t.told("", "", "", "");
        t.due("sort 4", x.count(4), -2);
        t.due("sort -1", x.count(-1), -2);
        for (int sort : Telling.FAR_OFF) {
            t.due("far off", x.count(sort), -2);
        }
    }
}
