/** Promise 11: act. */
public final class Promise11Test {
    private static final int NONE = FathomNight.NONE;

    private Promise11Test() {
    }

    public static void main(String[] args) {
        Cases.run(Promise11Test.class, args);
    }

    /** "How many ACTS (k NONE, what 0)": none and forty. */
    static void p11HowManyActs(Telling t) {
        t.due("none", t.told(null, null, "", null).act(0, NONE, 0), 0);
        t.due("begin is none", t.told(null, null, "begin 3 4;begin 0 0;", null).act(0, NONE, 0), 0);
        t.due("forty", t.told(null, null, "wait 3;".repeat(40), null).act(0, NONE, 0), 40);
    }

    /** "it begins in HOUSE 0 at UNIT 0, or as told" */
    static void p11Begins(Telling t) {
        FathomNight x = t.told(null, null, "sound;", null);
        t.due("house at first", x.act(0, NONE, 1), 0);
        t.due("unit at first", x.act(0, NONE, 2), 0);
        x = t.told(null, null, "sound;begin 7 35;", null);
        t.due("house", x.act(0, NONE, 1), 7);
        t.due("unit", x.act(0, NONE, 2), 35);
    }

    /** "Later ones strike (so .. of begin)" */
    static void p11ALaterBeginStrikes(Telling t) {
        FathomNight x = t.told(null, null, "begin 3 4;sound;begin 5 6;", null);
        t.due("house", x.act(0, NONE, 1), 5);
        t.due("unit", x.act(0, NONE, 2), 6);
    }

    /** "of ACT k, what 0: 0 go, 1 sound, 2 wait, 1: its number (NONE without)": the last one too. */
    static void p11OfAnAct(Telling t) {
        FathomNight x = t.told(null, null, "go 0;go 7;begin 1 1;sound;wait 1;wait 35;go 0;" + "sound;".repeat(33) + "wait 9;", null);
        int[][] rows = {{0, 0}, {0, 7}, {1, NONE}, {2, 1}, {2, 35}, {0, 0}};
        for (int k = 0; k < rows.length; k++) {
            t.due("act " + k, x.act(0, k, 0), rows[k][0]);
            t.due("number of " + k, x.act(0, k, 1), rows[k][1]);
        }
        t.due("act 39", x.act(0, 39, 0), 2);
        t.due("its number", x.act(0, 39, 1), 9);
        t.due("no act 40", x.act(0, 40, 0), -2);
    }

    /** "-2: there is none such (of either)": an ACT. */
    static void p11NoSuchAct(Telling t) {
        FathomNight x = t.told(null, null, "sound;wait 3;", null);
        t.due("the last one", x.act(0, 1, 1), 3);
        t.due("act 2", x.act(0, 2, 0), -2);
        t.due("act -2", x.act(0, -2, 0), -2);
        for (int k : Telling.FAR_OFF) {
            t.due("far off", x.act(0, k, 0), -2);
            t.due("far off", x.act(0, k, 1), -2);
        }
        t.due("of none", t.told(null, null, "", null).act(0, 0, 0), -2);
    }

    /** "-2: there is none such (of either)": a ROUND. */
    static void p11NoSuchRound(Telling t) {
        FathomNight x = new FathomNight();
        for (int many = 0; many < 3; many++) {
            t.due("one more than there are", x.act(many, NONE, 0), -2);
            t.due("round -1", x.act(-1, NONE, 0), -2);
            for (int round : Telling.FAR_OFF) {
                t.due("far off", x.act(round, NONE, 0), -2);
                t.due("far off", x.act(round, 0, 0), -2);
            }
            Telling.tell(x, 2, NONE, "sound;");
        }
        t.due("the last one that is there", x.act(1, 0, 0), 1);
    }

    /** "-2: .. or for another what.": of a ROUND, of an ACT. */
    static void p11AnotherWhat(Telling t) {
        FathomNight x = t.told(null, null, "sound;wait 3;", null);
        t.due("what 3 of a round", x.act(0, NONE, 3), -2);
        t.due("what -1 of a round", x.act(0, NONE, -1), -2);
        t.due("what 2 of an act", x.act(0, 1, 2), -2);
        t.due("what -1 of an act", x.act(0, 1, -1), -2);
        for (int what : Telling.FAR_OFF) {
            t.due("far off", x.act(0, NONE, what), -2);
            t.due("far off", x.act(0, 0, what), -2);
        }
    }
}
