/** Promise 14: hours. */
public final class Promise14Test {
    private static final int NONE = FathomNight.NONE;

    private Promise14Test() {
    }

    public static void main(String[] args) {
        Cases.run(Promise14Test.class, args);
    }

    private static void hours(Telling t, String street, String round, int... due) {
        FathomNight x = t.told(street, null, round, null);
        for (int w = 0; w < 9; w++) {
            t.due("watch " + w + " of " + round, x.hours(0, 0, w), due[w]);
        }
    }

    /** "HOURS at a ROUND: how many READINGS in each WATCH": soundings at one UNIT each count. */
    static void p14Readings(Telling t) {
        hours(t, "houses 2;door 0 1 3;plain 0 0 0 9 1 9;plain 0 0 2 36 1 9;child 0 0 0 36 1 9;plain 1 0 0 36 1 9;",
                "sound;sound;go 1;sound;wait 1;sound;go 0;sound;wait 28;sound;", 2 + 1, 1 + 2, 0, 0, 0, 0, 0, 0, 1);
    }

    /** "nine WATCHES of four": at the first and the last UNIT of each. */
    static void p14FirstAndLastUnit(Telling t) {
        String street = "plain 0 0 0 36 1 9;";
        for (int w = 0; w < 9; w++) {
            int[] due = new int[9];
            due[w] = 2;
            hours(t, street, "begin 0 " + 4 * w + ";sound;wait 3;sound;", due);
        }
    }

    /** "(Of a ROUND up to STOP.)": nothing is READ behind it. */
    static void p14UpToStop(Telling t) {
        String street = "plain 0 0 0 36 1 9;";
        hours(t, street, "sound;go 1;sound;wait 4;sound;", 1, 0, 0, 0, 0, 0, 0, 0, 0);
        hours(t, street, "begin 7 0;sound;", 0, 0, 0, 0, 0, 0, 0, 0, 0);
        hours(t, street, "", 0, 0, 0, 0, 0, 0, 0, 0, 0);
    }

    /** "how many READINGS": none of CHILDREN, none of those who are awake; a READING of 0 is one. */
    static void p14WhoIsRead(Telling t) {
        hours(t, "child 0 0 0 36 1 9;plain 0 0 0 4 1 9;plain 0 0 5 9 1 9;plain 0 0 4 9 1 9;", "wait 4;sound;",
                0, 1, 0, 0, 0, 0, 0, 0, 0);
    }

    /** "READINGS": the most of all. */
    static void p14TheMost(Telling t) {
        hours(t, "plain 0 0 0 36 1 9;".repeat(9), "sound;".repeat(40), 360, 0, 0, 0, 0, 0, 0, 0, 0);
    }

    /** "a WATCH, 0 .. 8. NONE: there is none such (of any)" */
    static void p14NoSuchWatch(Telling t) {
        FathomNight x = t.told("plain 0 0 0 36 1 9;", null, "sound;", null);
        t.due("watch 9", x.hours(0, 0, 9), NONE);
        t.due("watch -1", x.hours(0, 0, -1), NONE);
        for (int watch : Telling.FAR_OFF) {
            t.due("far off", x.hours(0, 0, watch), NONE);
        }
    }

    /** "NONE: there is none such (of any)": a STREET, a ROUND. */
    static void p14NoneSuch(Telling t) {
        FathomNight x = t.told("plain 0 0 0 36 1 9;", null, "sound;", null);
        t.due("street 1", x.hours(1, 0, 0), NONE);
        t.due("street -1", x.hours(-1, 0, 0), NONE);
        t.due("round 1", x.hours(0, 1, 0), NONE);
        t.due("round -1", x.hours(0, -1, 0), NONE);
        for (int far : Telling.FAR_OFF) {
            t.due("far off", x.hours(far, 0, 0), NONE);
            t.due("far off", x.hours(0, far, 0), NONE);
        }
    }
}
