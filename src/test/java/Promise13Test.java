/** Promise 13: state; with the ROUND, READINGS, CHARGES and DUE of Term 2. */
public final class Promise13Test {
    private static final int NONE = FathomNight.NONE;
    private static final int HOUSE = 0;
    private static final int UNIT = 1;
    private static final int READINGS = 2;
    private static final int WAKINGS = 3;
    private static final int DUE = 4;
    /** And the SLEEPER. */
    private static final int DUE_OF = 10;
    private static final int WOKEN = 20;
    private static final int READ = 30;

    private Promise13Test() {
    }

    public static void main(String[] args) {
        Cases.run(Promise13Test.class, args);
    }

    private static void state(Telling t, FathomNight x, int n, int what, int due) {
        t.due("state " + n + ", what " + what, x.state(0, 0, 0, n, what), due);
    }

    /** The STATE behind all ACTS of a ROUND, which all can be. */
    private static void behind(Telling t, FathomNight x, int what, int due) {
        state(t, x, x.act(0, NONE, 0), what, due);
    }

    /** "A STATE is behind the first n ACTS": act by act. */
    static void p13ActByAct(Telling t) {
        // He sounds 0; comes to 1 at 3, whose neighbour 0 has a cat; comes back at 6; waits; sounds twice.
        FathomNight x = t.told("houses 2;door 0 1 3;cat 0;plain 0 0 0 9 2 60;child 0 0 0 9 2 60;plain 0 1 4 9 2 60;",
                "mark 1;cap 7;", "sound;go 1;sound;go 0;wait 1;sound;sound;wait 2;sound;", null);
        int[][] rows = {
            // house, unit, readings, wakings, due of all
            {0, 0, 0, 0, 0}, {0, 0, 1, 0, 0}, {1, 3, 1, 2, 0}, {1, 3, 1, 2, 0}, {0, 6, 1, 2, 0}, {0, 7, 1, 2, 0},
            {0, 7, 3, 2, 7 + 5}, {0, 7, 5, 2, 7 + 7}, {0, 9, 5, 2, 14}, {0, 9, 5, 2, 14}};
        for (int n = 0; n < rows.length; n++) {
            for (int what = 0; what < 5; what++) {
                state(t, x, n, what, rows[n][what]);
            }
        }
        state(t, x, 6, DUE_OF, 7);
        state(t, x, 6, DUE_OF + 2, 5);
        state(t, x, 2, WOKEN, 3);
        state(t, x, 5, READ, 0);
        state(t, x, 9, READ, 8);
        state(t, x, 6, READ + 2, 6);
    }

    /** "n up to STOP": none of the ACTS. */
    static void p13BehindNoAct(Telling t) {
        FathomNight x = t.told("plain 0 0 0 9 2 60;", "", "begin 3 30;sound;", null);
        int[] due = {3, 30, 0, 0, 0};
        for (int what = 0; what < 5; what++) {
            state(t, x, 0, what, due[what]);
        }
        state(t, x, 0, DUE_OF, 0);
        state(t, x, 0, WOKEN, NONE);
        state(t, x, 0, READ, NONE);
    }

    /** "n up to STOP": all of them where all can be; of a ROUND without ACTS. */
    static void p13BehindAllActs(Telling t) {
        FathomNight x = t.told("plain 0 0 0 9 2 60;", "", "sound;wait 1;sound;", null);
        state(t, x, 3, READINGS, 2);
        state(t, x, 4, READINGS, -2);
        x = t.told("", "", "", null);
        state(t, x, 0, HOUSE, 0);
        state(t, x, 1, HOUSE, -2);
        x = t.told("plain 0 0 0 9 2 60;", "", "sound;".repeat(40), null);
        state(t, x, 40, READINGS, 40);
        state(t, x, 41, READINGS, -2);
    }

    /** "-2: there is no such STATE": behind an ACT that can't be. */
    static void p13BehindStop(Telling t) {
        FathomNight x = t.told("plain 0 0 0 9 2 60;", "", "sound;wait 2;go 1;sound;", null);
        state(t, x, 2, UNIT, 2);
        for (int what = 0; what < 5; what++) {
            state(t, x, 3, what, -2);
            state(t, x, 4, what, -2);
        }
        state(t, x, 3, DUE_OF, -2);
        state(t, x, 3, WOKEN, -2);
        state(t, x, 3, READ, -2);
    }

    /** "-2: there is no such STATE": n far off. */
    static void p13NoSuchState(Telling t) {
        FathomNight x = t.told("plain 0 0 0 9 2 60;", "", "sound;", null);
        state(t, x, -1, HOUSE, -2);
        state(t, x, -2, HOUSE, -2);
        for (int n : Telling.FAR_OFF) {
            state(t, x, n, HOUSE, -2);
        }
    }

    /** "if there is no such HOUSE, no ACT can be": the STATE behind none is as the ROUND begins. */
    static void p13BegunInNoSuchHouse(Telling t) {
        FathomNight x = t.told("houses 2;plain 0 0 0 9 2 60;", "", "begin 5 6;sound;", null);
        state(t, x, 0, HOUSE, 5);
        state(t, x, 0, UNIT, 6);
        state(t, x, 0, READINGS, 0);
        state(t, x, 1, HOUSE, -2);
    }

    /** "-2: .. none such (of any)": a STREET, LAW, ROUND. */
    static void p13NoneSuch(Telling t) {
        FathomNight x = t.told("", "", "", null);
        t.due("there is one", x.state(0, 0, 0, 0, 0), 0);
        t.due("street 1", x.state(1, 0, 0, 0, 0), -2);
        t.due("street -1", x.state(-1, 0, 0, 0, 0), -2);
        t.due("law 1", x.state(0, 1, 0, 0, 0), -2);
        t.due("law -1", x.state(0, -1, 0, 0, 0), -2);
        t.due("round 1", x.state(0, 0, 1, 0, 0), -2);
        t.due("round -1", x.state(0, 0, -1, 0, 0), -2);
        for (int far : Telling.FAR_OFF) {
            t.due("far off", x.state(far, 0, 0, 0, 0), -2);
            t.due("far off", x.state(0, far, 0, 0, 0), -2);
            t.due("far off", x.state(0, 0, far, 0, 0), -2);
        }
    }

    /** "-2: .. none such (of any)": a SLEEPER. */
    static void p13NoSuchSleeper(Telling t) {
        FathomNight x = t.told("plain 0 0 0 9 2 60;plain 0 0 0 9 2 60;", "", "sound;", null);
        for (int ten = 10; ten < 40; ten += 10) {
            t.due("the last one is there", x.state(0, 0, 0, 1, ten + 1) != -2, true);
            for (int k = 2; k < 10; k++) {
                state(t, x, 1, ten + k, -2);
            }
        }
        x = t.told("plain 0 0 0 9 2 60;".repeat(9), "", "sound;", null);
        for (int ten = 10; ten < 40; ten += 10) {
            t.due("the ninth is there", x.state(0, 0, 0, 1, ten + 8) != -2, true);
            state(t, x, 1, ten + 9, -2);
        }
    }

    /** "-2: .. or for another what." */
    static void p13AnotherWhat(Telling t) {
        FathomNight x = t.told("plain 0 0 0 9 2 60;".repeat(9), "", "sound;", null);
        for (int what = 5; what < 10; what++) {
            state(t, x, 1, what, -2);
        }
        for (int what = 40; what < 120; what++) {
            state(t, x, 1, what, -2);
        }
        state(t, x, 1, -1, -2);
        state(t, x, 1, -10, -2);
        for (int what : Telling.FAR_OFF) {
            state(t, x, 1, what, -2);
        }
    }

    /** "On coming to a HOUSE by go": he who sleeps in a HOUSE with a CAT and a DOOR to it is WOKEN at that UNIT. */
    static void p13WokenOnComing(Telling t) {
        FathomNight x = t.told("houses 3;door 0 1 3;door 1 2 4;cat 0;cat 2;plain 0 0 0 36 1 60;plain 2 0 0 36 1 60;", "",
                "go 1;go 2;go 1;", null);
        state(t, x, 0, WAKINGS, 0);
        state(t, x, 1, WAKINGS, 2);
        state(t, x, 1, WOKEN, 3);
        state(t, x, 1, WOKEN + 1, 3);
        state(t, x, 2, WAKINGS, 2);
        state(t, x, 3, WAKINGS, 4);
        state(t, x, 3, WOKEN, 11);
    }

    /** "(not at the beginning)" */
    static void p13NotWokenAtTheBeginning(Telling t) {
        FathomNight x = t.told("houses 2;door 0 1 3;cat 0;plain 0 0 0 36 1 60;", "", "begin 1 5;sound;wait 3;go 0;sound;", null);
        for (int n = 0; n < 5; n++) {
            state(t, x, n, WAKINGS, 0);
            state(t, x, n, WOKEN, NONE);
        }
        behind(t, x, READ, 11);
    }

    /** "by go": neither waiting nor sounding wakes anybody. */
    static void p13NotWokenByWaiting(Telling t) {
        FathomNight x = t.told("houses 2;door 0 1 3;cat 0;plain 0 0 0 36 1 60;", "", "go 1;wait 2;sound;wait 1;sound;", null);
        behind(t, x, WAKINGS, 1);
        behind(t, x, WOKEN, 3);
    }

    /** "(not those in the HOUSE he comes to, unless it is such a one)": its own CAT wakes nobody there. */
    static void p13NotWokenInTheHouseHeComesTo(Telling t) {
        FathomNight x = t.told("houses 2;door 0 1 3;cat 0;cat 1;plain 1 0 0 36 1 60;", "", "go 1;sound;", null);
        behind(t, x, WAKINGS, 0);
        behind(t, x, READ, 3);
    }

    /** "a HOUSE that has a CAT": none without. */
    static void p13NotWokenWithoutACat(Telling t) {
        FathomNight x = t.told("houses 2;door 0 1 3;cat 1;plain 0 0 0 36 1 60;", "", "go 1;", null);
        behind(t, x, WAKINGS, 0);
    }

    /** "and a DOOR to it": none of a HOUSE that is further off. */
    static void p13NotWokenWithoutADoor(Telling t) {
        FathomNight x = t.told("houses 3;door 0 1 3;door 1 2 4;cat 2;plain 2 0 0 36 1 60;", "", "begin 1 0;go 0;go 1;", null);
        state(t, x, 1, WAKINGS, 0);
        state(t, x, 2, WAKINGS, 1);
        state(t, x, 2, WOKEN, 6);
    }

    /** "each SLEEPER ASLEEP": at LIES he is, ahead of it and from getting up on he is not. */
    static void p13WokenIfAsleep(Telling t) {
        String street = "houses 2;door 0 1 5;cat 0;plain 0 0 5 36 1 60;plain 0 0 6 36 1 60;plain 0 0 0 5 1 60;"
                + "plain 0 0 0 6 1 60;plain 0 0 0 4 1 60;plain 0 0 0 3 1 60;wine 4 0;wine 5 0;";
        FathomNight x = t.told(street, "", "go 1;", null);
        int[] woken = {5, NONE, NONE, 5, 5, NONE};
        for (int k = 0; k < woken.length; k++) {
            behind(t, x, WOKEN + k, woken[k]);
        }
        behind(t, x, WAKINGS, 3);
    }

    /** "each SLEEPER ASLEEP": CHILDREN too, whatever their BED. */
    static void p13ChildrenAreWoken(Telling t) {
        FathomNight x = t.told("houses 2;door 0 1 3;cat 0;child 0 0 0 36 1 60;mother 0 3 0 36 1 60;rich 0 0 0 36 1 60;", "",
                "go 1;", null);
        behind(t, x, WAKINGS, 3);
        behind(t, x, WOKEN, 3);
    }

    /** "since he was WOKEN last": he sinks anew, DEEP at most. */
    static void p13SinksSinceWoken(Telling t) {
        FathomNight x = t.told("houses 2;door 0 1 2;cat 0;plain 0 0 0 36 3 60;plain 0 0 0 36 3 4;mother 0 0 0 36 1 60;"
                + "poppy 1 8;wine 0 2;", "", "go 1;go 0;sound;wait 1;sound;go 1;go 0;sound;", null);
        // Woken at 2 and 7; read at 4, 5 and 9; the wine of 2 lasts till 7.
        state(t, x, 3, READ, 6 + 3);
        state(t, x, 5, READ, 9 + 3);
        state(t, x, 8, READ, 6);
        state(t, x, 5, READ + 1, 4);
        state(t, x, 8, READ + 1, 6);
        state(t, x, 3, READ + 2, 1);
        state(t, x, 8, WOKEN, 7);
    }

    /** "20 + k: when he was WOKEN last (NONE)": UNIT 35, and one who got up since. */
    static void p13WokenLast(Telling t) {
        FathomNight x = t.told("houses 2;door 0 1 1;cat 0;plain 0 0 0 36 3 60;plain 0 0 0 3 3 60;", "", "go 1;wait 32;go 0;go 1;", null);
        state(t, x, 1, WOKEN, 1);
        state(t, x, 4, WOKEN, 35);
        state(t, x, 4, WOKEN + 1, 1);
        state(t, x, 4, WAKINGS, 3);
    }

    /** "sound: each SLEEPER ASLEEP in that HOUSE": no other HOUSE. */
    static void p13ReadInThatHouse(Telling t) {
        FathomNight x = t.told("houses 2;door 0 1 1;plain 0 0 0 36 3 60;plain 1 0 0 36 3 60;", "", "wait 1;sound;", null);
        behind(t, x, READINGS, 1);
        behind(t, x, READ, 3);
        behind(t, x, READ + 1, NONE);
    }

    /** "sound: each SLEEPER ASLEEP": at LIES he is READ as 0, ahead of it and from getting up on not at all. */
    static void p13ReadIfAsleep(Telling t) {
        String street = "plain 0 0 5 36 3 60;plain 0 0 6 36 3 60;plain 0 0 0 5 3 60;plain 0 0 0 6 3 60;plain 0 0 0 4 3 60;wine 4 3;";
        FathomNight x = t.told(street, "", "wait 5;sound;", null);
        int[] read = {0, NONE, NONE, 15, 15 + 3};
        for (int k = 0; k < read.length; k++) {
            behind(t, x, READ + k, read[k]);
        }
        behind(t, x, READINGS, 3);
    }

    /** "but CHILDREN": they are never READ, and nothing is due of them. */
    static void p13NoChildIsRead(Telling t) {
        FathomNight x = t.told("child 0 0 0 36 3 60;poppy 0 0;", "fine 9;", "wait 5;sound;", null);
        behind(t, x, READINGS, 0);
        behind(t, x, READ, NONE);
        behind(t, x, DUE, 0);
        behind(t, x, DUE_OF, 0);
    }

    /** "the latest READING of his (NONE)": it stays when he is not READ again. */
    static void p13LatestReading(Telling t) {
        FathomNight x = t.told("houses 2;door 0 1 1;plain 0 0 0 4 3 60;", "", "sound;wait 2;sound;wait 2;sound;go 1;sound;", null);
        state(t, x, 0, READ, NONE);
        state(t, x, 1, READ, 0);
        state(t, x, 3, READ, 6);
        state(t, x, 7, READ, 6);
        state(t, x, 7, READINGS, 2);
    }

    /** "UNITS 0 .. 35": the last one can be sounded. */
    static void p13ReadAtTheLastUnit(Telling t) {
        FathomNight x = t.told("plain 0 0 0 36 1 60;", "rate 8 9;", "wait 35;sound;", null);
        behind(t, x, READ, 35);
        behind(t, x, DUE, 315);
        behind(t, x, READINGS, 1);
        behind(t, x, UNIT, 35);
    }

    /** Each sounding is one of its own, though no UNIT passes. */
    static void p13SoundedAgainAtOnce(Telling t) {
        FathomNight x = t.told("plain 0 0 0 36 1 60;poppy 0 0;", "mark 2;fine 5;", "wait 5;sound;sound;sound;", null);
        behind(t, x, READINGS, 3);
        behind(t, x, DUE, 3 * (3 + 5));
    }

    /** "if he is RICH and somebody STANDS in for him (the least who does), that one's DEPTH" */
    static void p13ReadByTheLeastWhoStandsIn(Telling t) {
        FathomNight x = t.told("plain 0 0 0 20 7 60;rich 0 0 0 20 5 60;plain 0 0 0 20 3 60;child 0 0 0 20 2 60;stands 3 1;stands 2 1;",
                "", "wait 1;sound;", null);
        behind(t, x, READ + 1, 3);
        behind(t, x, READ + 2, 3);
        behind(t, x, READINGS, 3);
        x = t.told("rich 0 0 0 20 5 60;plain 0 0 0 20 3 60;child 0 0 0 20 2 60;stands 2 0;", "", "wait 1;sound;", null);
        behind(t, x, READ, 2);
        behind(t, x, READ + 2, NONE);
        x = t.told("plain 0 0 0 20 4 60;rich 0 0 0 20 5 60;plain 0 0 0 20 3 60;stands 2 1;stands 0 1;", "", "wait 1;sound;", null);
        behind(t, x, READ + 1, 4);
        x = t.told("plain 0 0 0 20 2 60;" + "plain 0 0 0 20 1 60;".repeat(7) + "rich 0 0 0 20 5 60;stands 0 8;", "", "wait 1;sound;", null);
        behind(t, x, READ + 8, 2);
    }

    /** "(0, if he is awake)": who stands in; and the least who does, though another one sleeps. */
    static void p13ReadByOneWhoIsAwake(Telling t) {
        FathomNight x = t.told("rich 0 0 0 20 5 60;plain 0 0 2 4 3 60;plain 0 0 0 20 4 60;stands 1 0;stands 2 0;", "",
                "wait 1;sound;wait 1;sound;wait 1;sound;wait 1;sound;", null);
        state(t, x, 2, READ, 0);
        state(t, x, 2, READINGS, 2);
        state(t, x, 4, READ, 0);
        state(t, x, 6, READ, 3);
        state(t, x, 8, READ, 0);
    }

    /** "each SLEEPER ASLEEP": a RICH one who is awake is not READ, though his stand-in sleeps. */
    static void p13ARichOneAwake(Telling t) {
        FathomNight x = t.told("rich 0 0 5 6 5 60;plain 0 0 0 20 3 60;stands 1 0;", "", "wait 4;sound;wait 1;sound;wait 1;sound;", null);
        state(t, x, 2, READ, NONE);
        state(t, x, 4, READ, 15);
        state(t, x, 6, READINGS, 4);
    }

    /** "that one's DEPTH": his own, though another one STANDS in for him too. */
    static void p13AStandInsOwnDepth(Telling t) {
        FathomNight x = t.told("rich 0 0 0 20 5 60;rich 0 0 0 20 4 60;mother 0 0 0 20 3 60;stands 1 0;stands 2 1;", "",
                "wait 1;sound;", null);
        behind(t, x, READ, 4);
        behind(t, x, READ + 1, 2);
        behind(t, x, READ + 2, 2);
    }

    /** "less MARK, 0 at least" */
    static void p13LessMark(Telling t) {
        FathomNight x = t.told("plain 0 0 0 36 1 60;", "mark 5;", "wait 4;sound;wait 1;sound;wait 1;sound;wait 1;sound;", null);
        state(t, x, 2, DUE, 0);
        state(t, x, 4, DUE, 0);
        state(t, x, 6, DUE, 1);
        state(t, x, 8, DUE, 3);
        x = t.told("plain 0 0 0 36 9 60;wine 0 9;", "mark 60;", "wait 8;sound;wait 1;sound;", null);
        behind(t, x, DUE, 3);
    }

    /** "times the RATE of the WATCH": at the first and the last UNIT of WATCHES. */
    static void p13RateOfTheWatch(Telling t) {
        FathomNight x = t.told("plain 0 0 0 36 1 60;", "mark 2;rate 0 2;rate 1 3;rate 7 5;rate 8 0;",
                "wait 3;sound;wait 1;sound;wait 27;sound;wait 1;sound;wait 3;sound;", null);
        state(t, x, 2, DUE, 2);
        state(t, x, 4, DUE, 2 + 6);
        state(t, x, 6, DUE, 8 + 29 * 5);
        state(t, x, 8, DUE, 8 + 29 * 5);
        state(t, x, 10, DUE, 8 + 29 * 5);
    }

    /** "and FINE, if he took POPPY at that UNIT or ahead": below MARK too, by RATE 0 too. */
    static void p13Fine(Telling t) {
        FathomNight x = t.told("plain 0 0 0 36 1 60;plain 0 0 0 36 1 60;poppy 0 5;", "mark 60;fine 7;rate 1 0;",
                "wait 4;sound;wait 1;sound;wait 1;sound;", null);
        state(t, x, 2, DUE_OF, 0);
        state(t, x, 4, DUE_OF, 7);
        state(t, x, 6, DUE_OF, 14);
        state(t, x, 6, DUE_OF + 1, 0);
    }

    /** "at that UNIT or ahead": at UNIT 0, for each sounding once. */
    static void p13FineAtUnitZero(Telling t) {
        FathomNight x = t.told("plain 0 0 0 36 1 60;poppy 0 0;", "fine 7;", "sound;wait 1;sound;", null);
        state(t, x, 0, DUE, 0);
        state(t, x, 1, DUE, 7);
        state(t, x, 2, DUE, 7);
        state(t, x, 3, DUE, 7 + 1 + 7);
        state(t, x, 1, DUE, 7);
    }

    /** "if he took POPPY": he who is READ, not he who STANDS in for him. */
    static void p13FineOfHisOwnPoppy(Telling t) {
        FathomNight x = t.told("rich 0 0 0 36 1 60;plain 0 0 0 36 1 60;stands 1 0;poppy 1 0;", "mark 60;fine 7;", "wait 4;sound;", null);
        behind(t, x, DUE_OF, 0);
        behind(t, x, DUE_OF + 1, 7);
    }

    /** "0 in a FREE HOUSE": nothing of the FINE either; his READING stands. */
    static void p13AFreeHouse(Telling t) {
        String street = "houses 8;door 0 7 1;plain 0 0 0 36 1 60;plain 7 0 0 36 2 60;poppy 0 0;poppy 1 0;";
        FathomNight x = t.told(street, "fine 7;free 7;", "wait 4;sound;go 7;sound;", null);
        behind(t, x, DUE_OF, 4 + 7);
        behind(t, x, DUE_OF + 1, 0);
        behind(t, x, READINGS, 2);
        behind(t, x, READ + 1, 10);
        x = t.told(street, "fine 7;free 0;", "wait 4;sound;go 7;sound;", null);
        behind(t, x, DUE_OF, 0);
        behind(t, x, DUE_OF + 1, 10 + 7);
    }

    /** "DUE of a SLEEPER: all CHARGES together, CAP at most." */
    static void p13CapAtMost(Telling t) {
        String round = "wait 4;sound;wait 1;sound;";
        int[][] rows = {{8, 4, 8}, {9, 4, 9}, {10, 4, 9}, {4, 4, 4}, {1, 1, 1}};
        for (int[] row : rows) {
            FathomNight x = t.told("plain 0 0 0 36 1 60;", "cap " + row[0] + ";", round, null);
            state(t, x, 2, DUE_OF, row[1]);
            state(t, x, 4, DUE_OF, row[2]);
        }
    }

    /** "a CAP, 1 .. 999 (999)": it is 999 where none is told. */
    static void p13CapAtFirst(Telling t) {
        String rates = "rate 1 9;rate 2 9;rate 3 9;";
        FathomNight x = t.told("plain 0 0 0 36 9 60;", rates, "wait 8;sound;sound;", null);
        state(t, x, 2, DUE_OF, 540);
        state(t, x, 3, DUE_OF, 999);
        x = t.told("plain 0 0 0 36 9 60;".repeat(9), rates, "wait 8;" + "sound;".repeat(39), null);
        behind(t, x, DUE, 9 * 999);
    }

    /** "4: DUE of all": each one's by the CAP, together. */
    static void p13DueOfAll(Telling t) {
        FathomNight x = t.told("plain 0 0 0 36 1 60;plain 0 0 0 36 2 60;plain 0 0 0 36 3 60;", "cap 10;", "wait 4;sound;", null);
        behind(t, x, DUE, 4 + 8 + 10);
        behind(t, t.told("", "", "sound;", null), DUE, 0);
    }

    /** "by BEDS shared the greatest READING of all READ in his BED of that HOUSE then": no other BED, no other HOUSE. */
    static void p13SharedBeds(Telling t) {
        String street = "houses 2;door 0 1 1;plain 0 0 0 36 1 60;plain 0 0 0 36 3 60;plain 0 3 0 36 5 60;plain 1 0 0 36 9 60;";
        FathomNight x = t.told(street, "mark 2;shared;", "wait 4;sound;", null);
        int[] due = {10, 10, 18, 0};
        for (int k = 0; k < 4; k++) {
            behind(t, x, DUE_OF + k, due[k]);
        }
        behind(t, x, READ, 4);
        x = t.told(street, "mark 2;", "wait 4;sound;", null);
        behind(t, x, DUE_OF, 2);
    }

    /** "of all READ": not of CHILDREN, not of those who are awake. */
    static void p13SharedByAllReadAlone(Telling t) {
        FathomNight x = t.told("plain 0 1 0 36 1 60;child 0 1 0 36 9 60;plain 0 1 0 4 9 60;plain 0 1 5 36 9 60;", "shared;",
                "wait 4;sound;", null);
        behind(t, x, DUE_OF, 4);
        behind(t, x, DUE, 4);
    }

    /** "the greatest READING": of a RICH one in his BED as he is READ, by one who STANDS in. */
    static void p13SharedWithARichOne(Telling t) {
        FathomNight x = t.told("rich 0 0 0 36 9 60;plain 0 0 0 36 1 60;plain 0 1 0 36 3 60;stands 2 0;", "shared;", "wait 4;sound;", null);
        behind(t, x, DUE_OF, 12);
        behind(t, x, DUE_OF + 1, 12);
        behind(t, x, DUE_OF + 2, 12);
        behind(t, x, READ + 1, 4);
    }

    /** "then": at that sounding, not at others. */
    static void p13SharedThen(Telling t) {
        FathomNight x = t.told("plain 0 0 0 36 1 60;plain 0 0 0 5 3 60;", "shared;", "wait 4;sound;wait 1;sound;", null);
        state(t, x, 2, DUE_OF, 12);
        state(t, x, 4, DUE_OF, 12 + 5);
    }

    /** "and FINE, if he took POPPY": his own in a shared BED. */
    static void p13SharedFine(Telling t) {
        FathomNight x = t.told("plain 0 0 0 36 1 60;plain 0 0 0 36 3 60;poppy 1 0;", "shared;fine 50;", "wait 4;sound;", null);
        behind(t, x, DUE_OF, 12);
        behind(t, x, DUE_OF + 1, 62);
    }
}
