/** Promise 26: drawn. */
public final class Promise26Test {
    private static final int NONE = FathomNight.NONE;

    private Promise26Test() {
    }

    public static void main(String[] args) {
        Cases.run(Promise26Test.class, args);
    }

    /** The numbers that are drawn, by wide arithmetic alone. */
    private static final class Draws {
        private long x;

        Draws(int seed) {
            x = seed & 0xffffffffL;
        }

        int below(int n) {
            x = (x * 1103515245L + 12345L) % 4294967296L;
            return (int) (x / 65536L % n);
        }
    }

    /** "x becomes x * 1103515245 + 12345 (of 32 bits), it is x shifted right by 16 without sign, remainder by n" */
    private static void seeded(Telling t, int seed) {
        FathomNight x = t.told("plain 0 0 0 36 1 60;plain 0 0 0 36 2 60;wine 0 9;wine 0 9;", "mark 12;", "wait 10;sound;", null);
        Draws draws = new Draws(seed);
        int[] dues = new int[2];
        int nights = 0;
        for (int i = 1; i <= 30; i++) {
            boolean above = false;
            for (int k = 0; k < 2; k++) {
                int read = k == 0 ? 10 : 20;
                if (draws.below(4) == 0) {
                    int unit = draws.below(36);
                    read += unit >= 5 && unit <= 10 ? 3 : 0;
                }
                dues[k] += Math.max(0, read - 12);
                above |= read > 12;
            }
            nights += above ? 1 : 0;
            t.due("due of all, seed " + seed + ", " + i, x.drawn(0, 0, 0, seed, i, 0), dues[0] + dues[1]);
            t.due("nights, seed " + seed + ", " + i, x.drawn(0, 0, 0, seed, i, 1), nights);
            t.due("due of 0, seed " + seed + ", " + i, x.drawn(0, 0, 0, seed, i, 10), dues[0]);
            t.due("due of 1, seed " + seed + ", " + i, x.drawn(0, 0, 0, seed, i, 11), dues[1]);
        }
    }

    static void p26DrawnBySeeds(Telling t) {
        for (int seed = 0; seed < 40; seed++) {
            seeded(t, seed * 7919 + 3);
        }
    }

    /** "(of 32 bits)", "without sign": the wrap-around, from seeds below 0 and the outmost ones. */
    static void p26SeedsThatWrapAround(Telling t) {
        for (int seed : new int[] {0, -1, 1, Integer.MAX_VALUE, Integer.MIN_VALUE, -77, -1103515245, 0x80000001, 0x7fff8000}) {
            seeded(t, seed);
        }
    }

    /** The first numbers, written out: by seed 0 he drinks, at 20. */
    static void p26FirstNumbers(Telling t) {
        // 12345: 0 % 4 = 0; 3554416254: 54236 % 36 = 20.
        String street = "plain 0 0 0 36 1 0;";
        for (int unit = 0; unit < 36; unit++) {
            FathomNight x = t.told(street, "", "begin 0 " + unit + ";sound;", null);
            t.due("read at " + unit, x.drawn(0, 0, 0, 0, 1, 10), unit >= 20 && unit <= 25 ? 3 : 0);
        }
    }

    /** "n nights .. 0 .. 30": none. */
    static void p26NoNight(Telling t) {
        FathomNight x = t.told("plain 0 0 0 36 9 60;", "", "wait 10;sound;", null);
        t.due("due of all", x.drawn(0, 0, 0, 5, 0, 0), 0);
        t.due("nights", x.drawn(0, 0, 0, 5, 0, 1), 0);
        t.due("due of 0", x.drawn(0, 0, 0, 5, 0, 10), 0);
    }

    /** "NONE: .. another n" */
    static void p26AnotherN(Telling t) {
        FathomNight x = t.told("plain 0 0 0 36 9 60;", "cap 7;", "wait 10;sound;", null);
        t.due("30", x.drawn(0, 0, 0, 5, 30, 0), 210);
        t.due("31", x.drawn(0, 0, 0, 5, 31, 0), NONE);
        t.due("-1", x.drawn(0, 0, 0, 5, -1, 0), NONE);
        for (int n : Telling.FAR_OFF) {
            t.due("far off", x.drawn(0, 0, 0, 5, n, 0), NONE);
        }
    }

    /** "in place of WINE told": that counts for nothing, and stays as told. */
    static void p26InPlaceOfWineTold(Telling t) {
        FathomNight x = t.told("plain 0 0 0 36 1 0;" + "wine 0 5;".repeat(8), "", "wait 6;sound;", null);
        t.due("due as told", x.state(0, 0, 0, 2, 4), 24);
        // By seed 0 he drinks at 20.
        t.due("due", x.drawn(0, 0, 0, 0, 1, 0), 0);
        t.due("wine as told", x.street(0, 3), 8);
        t.due("due as told", x.state(0, 0, 0, 2, 4), 24);
    }

    /** "for each SLEEPER a number below 4": of nine all may drink, more than can be told. */
    static void p26NineDrink(Telling t) {
        int seed = seedByWhichAllDrink(9);
        FathomNight x = t.told("plain 0 0 0 36 1 0;".repeat(9), "", "sound;wait 1;".repeat(20), null);
        Draws draws = new Draws(seed);
        int all = 0;
        for (int k = 0; k < 9; k++) {
            draws.below(4);
            int unit = draws.below(36);
            int due = 0;
            for (int u = 1; u < 20; u++) {
                due += u >= unit && u <= unit + 5 ? 3 : 0;
            }
            t.due("due of " + k, x.drawn(0, 0, 0, seed, 1, 10 + k), due);
            all += due;
        }
        t.due("due of all", x.drawn(0, 0, 0, seed, 1, 0), all);
        x = t.told("plain 0 0 0 36 9 60;".repeat(9), "cap 7;", "wait 5;sound;", null);
        t.due("due of all nine", x.drawn(0, 0, 0, seed, 30, 0), 30 * 63);
    }

    private static int seedByWhichAllDrink(int many) {
        for (int seed = 0; seed < 100000000; seed++) {
            Draws draws = new Draws(seed);
            boolean all = true;
            for (int k = 0; k < many && all; k++) {
                all = draws.below(4) == 0;
                draws.below(36);
            }
            if (all) {
                return seed;
            }
        }
        throw new IllegalStateException("no such seed");
    }

    /** "LATE": WINE that is drawn makes him get up late. */
    static void p26LateByWineDrawn(Telling t) {
        // By seed 0 he drinks at 20: late from RISES 21 to 28.
        for (int rises = 19; rises < 31; rises++) {
            FathomNight x = t.told("plain 0 0 0 " + rises + " 1 60;poppy 0 0;", "mark 60;fine 7;", "begin 0 " + rises + ";sound;", null);
            t.due("rises at " + rises, x.drawn(0, 0, 0, 0, 1, 0), rises >= 21 && rises <= 28 ? 7 : 0);
        }
    }

    /** "DUE of all nights of a SLEEPER": each night's by the CAP. */
    static void p26EachNightsCap(Telling t) {
        FathomNight x = t.told("plain 0 0 0 36 9 60;plain 0 0 0 36 1 60;", "cap 15;", "wait 10;sound;wait 1;sound;", null);
        t.due("of 0", x.drawn(0, 0, 0, 9, 30, 10), 30 * 15);
        t.due("of all", x.drawn(0, 0, 0, 9, 30, 0), 30 * 30);
        x = t.told("plain 0 0 0 36 9 60;poppy 0 0;", "fine 99;", "wait 10;" + "sound;".repeat(39), null);
        t.due("the most", x.drawn(0, 0, 0, 9, 30, 0), 30 * 999);
    }

    private static int nights(Telling t, String street, String law) {
        return t.told(street, law, "wait 1;sound;", null).drawn(0, 0, 0, 1, 30, 1);
    }

    /** "on how many nights somebody was READ above MARK": MARK itself is not. */
    static void p26NightsAboveMark(Telling t) {
        String street = "plain 0 0 0 36 9 60;";
        int drunk = 0;
        Draws draws = new Draws(1);
        for (int n = 0; n < 30; n++) {
            drunk += draws.below(4) == 0 && draws.below(36) <= 1 ? 1 : 0;
        }
        t.due("9 is above 8", nights(t, street, "mark 8;"), 30);
        t.due("9 is not above 9, 12 is", nights(t, street, "mark 9;"), drunk);
        t.due("12 is above 11", nights(t, street, "mark 11;"), drunk);
        t.due("12 is not above 12", nights(t, street, "mark 12;"), 0);
    }

    /** "READ above MARK": whatever is due of it; of several READINGS of a night one is enough. */
    static void p26AboveMarkThoughNothingIsDue(Telling t) {
        String street = "plain 0 0 0 36 9 60;";
        t.due("a free house", nights(t, street, "mark 8;free 0;"), 30);
        t.due("rate 0", nights(t, street, "mark 8;rate 0 0;"), 30);
        FathomNight x = t.told(street, "mark 8;", "sound;wait 1;sound;wait 9;sound;wait 20;sound;", null);
        t.due("several", x.drawn(0, 0, 0, 1, 30, 1), 30);
    }

    /** "READ": no CHILDREN, nobody of another HOUSE; a RICH one by who STANDS in for him. */
    static void p26WhoIsReadAboveMark(Telling t) {
        t.due("a child", nights(t, "child 0 0 0 36 9 60;", ""), 0);
        t.due("another house", nights(t, "plain 1 0 0 36 9 60;", ""), 0);
        t.due("awake", nights(t, "plain 0 0 2 36 9 60;", ""), 0);
        t.due("a rich one", nights(t, "rich 0 0 0 36 9 60;mother 0 0 0 36 2 60;stands 1 0;", "mark 4;"), 0);
        t.due("a rich one", nights(t, "rich 0 0 0 36 1 60;mother 0 0 0 36 9 60;stands 1 0;", "mark 7;"), 30);
    }

    /** "(Of a ROUND up to STOP.)" */
    static void p26UpToStop(Telling t) {
        FathomNight x = t.told("plain 0 0 0 36 9 60;", "mark 20;", "wait 1;sound;go 1;wait 9;sound;", null);
        t.due("due", x.drawn(0, 0, 0, 1, 30, 0), 0);
        t.due("nights", x.drawn(0, 0, 0, 1, 30, 1), 0);
    }

    /** Nobody sleeps: nothing is due. */
    static void p26NoSleepers(Telling t) {
        FathomNight x = t.told("", "", "sound;", null);
        t.due("due", x.drawn(0, 0, 0, 1, 30, 0), 0);
        t.due("nights", x.drawn(0, 0, 0, 1, 30, 1), 0);
        t.due("nobody's", x.drawn(0, 0, 0, 1, 30, 10), NONE);
    }

    /** "NONE: there is none such (of any)": a SLEEPER. */
    static void p26NoSuchSleeper(Telling t) {
        FathomNight x = t.told("plain 0 0 0 36 9 60;plain 0 0 0 36 9 60;", "cap 1;", "wait 1;sound;", null);
        t.due("the last one", x.drawn(0, 0, 0, 1, 30, 11), 30);
        for (int what = 12; what < 40; what++) {
            t.due("what " + what, x.drawn(0, 0, 0, 1, 30, what), NONE);
        }
    }

    /** "NONE: .. or for another what." */
    static void p26AnotherWhat(Telling t) {
        FathomNight x = t.told("plain 0 0 0 36 9 60;", "", "wait 1;sound;", null);
        for (int what = 2; what < 10; what++) {
            t.due("what " + what, x.drawn(0, 0, 0, 1, 1, what), NONE);
        }
        t.due("what -1", x.drawn(0, 0, 0, 1, 1, -1), NONE);
        for (int what : Telling.FAR_OFF) {
            t.due("far off", x.drawn(0, 0, 0, 1, 1, what), NONE);
        }
    }

    /** "NONE: there is none such (of any)": a STREET, LAW, ROUND. */
    static void p26NoneSuch(Telling t) {
        FathomNight x = t.told("plain 0 0 0 36 9 60;", "", "wait 1;sound;", null);
        for (int far : new int[] {1, -1, 2, Integer.MAX_VALUE, Integer.MIN_VALUE}) {
            t.due("street " + far, x.drawn(far, 0, 0, 1, 1, 0), NONE);
            t.due("law " + far, x.drawn(0, far, 0, 1, 1, 0), NONE);
            t.due("round " + far, x.drawn(0, 0, far, 1, 1, 0), NONE);
        }
    }
}
