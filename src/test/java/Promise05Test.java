/** Promise 5: fault; with the FAULTS of Term 1. */
public final class Promise05Test {
    private static final int NONE = FathomNight.NONE;
    private static final String SLEEPER = "plain 0 0 0 9 1 1;";
    /** A street where every HOUSE and SLEEPER is there; SLEEPERS 0 and 8 are RICH. */
    private static final String ALL = "houses 8;rich 0 0 0 9 1 1;" + SLEEPER.repeat(7) + "rich 0 0 0 9 1 1;";

    private Promise05Test() {
    }

    public static void main(String[] args) {
        Cases.run(Promise05Test.class, args);
    }

    /** "Of the latest text(), what 0: the FAULT, 0 without, 1: its place, NONE without." */
    static void p05OfTheLatestText(Telling t) {
        FathomNight x = new FathomNight();
        Telling.tell(x, 0, NONE, "cat;");
        t.due("fault(0)", x.fault(0), 1);
        t.due("fault(1)", x.fault(1), 3);
        Telling.tell(x, 1, NONE, "fine 100;");
        t.due("fault(0)", x.fault(0), 2);
        t.due("fault(1)", x.fault(1), 5);
        Telling.tell(x, 0, NONE, "cat 1;");
        t.due("0 without", x.fault(0), 0);
        t.due("NONE without", x.fault(1), NONE);
    }

    /** "NONE for another what." */
    static void p05AnotherWhat(Telling t) {
        FathomNight x = new FathomNight();
        for (int i = 0; i < 2; i++) {
            t.due("fault(2)", x.fault(2), NONE);
            t.due("fault(-1)", x.fault(-1), NONE);
            for (int what : Telling.FAR_OFF) {
                t.due("far off", x.fault(what), NONE);
            }
            Telling.tell(x, 0, NONE, "houses 9;");
        }
    }

    /** "places (a token's first byte; the end's)": at the first byte of the tape. */
    static void p05AtTheFirstByte(Telling t) {
        t.faulty(0, ";", 1, 0);
        t.faulty(0, "3", 1, 0);
        t.faulty(0, "x", 1, 0);
        t.faulty(0, "\0", 1, 0);
        t.faulty(0, "houses" + (char) 255, 1, 6);
    }

    /** "the end's": a text that ends ahead of its ;, by blanks too. */
    static void p05AtTheEnd(Telling t) {
        t.faulty(0, "houses", 1, 6);
        t.faulty(0, "houses  ", 1, 8);
        t.faulty(0, "houses 3", 1, 8);
        t.faulty(0, "houses 3;door 0 1", 1, 17);
        t.faulty(1, "shared", 1, 6);
        t.faulty(2, "sound;wait", 1, 10);
        t.faulty(3, "quiet 1\n", 1, 8);
        t.faulty(2, " ".repeat(595) + "sound", 1, 600);
    }

    /** "1 the first byte or token with which no text goes on": a word that is none. */
    static void p05NoSuchWord(Telling t) {
        t.faulty(0, "house 3;", 1, 0);
        t.faulty(0, "housess 3;", 1, 0);
        t.faulty(0, "houses 3;plai 0 0 0 9 1 1;", 1, 9);
        t.faulty(0, "houses 3; catt 1;", 1, 10);
        t.faulty(0, "Houses 3;", 1, 0);
        t.faulty(0, "hOuses 3;", 1, 0);
        t.faulty(3, "quiet 1;loud 2;", 1, 8);
    }

    /** "1 the first .. token with which no text goes on": too few NUMBERS, too many, of every line. */
    static void p05TooFewNumbersTooMany(Telling t) {
        String[][] lines = {
            {"houses 1", "door 0 1 1", "cat 0", "plain 0 0 0 9 1 1", "mother 0 0 0 9 1 1", "child 0 0 0 9 1 1",
                "rich 0 0 0 9 1 1", "wine 0 0", "poppy 0 0", "stands 0 1"},
            {"mark 0", "cap 1", "fine 0", "free 0", "rate 0 0", "shared"},
            {"begin 0 0", "go 0", "sound", "wait 1"},
            {"caught 0", "quiet 0"}};
        for (int sort = 0; sort < 4; sort++) {
            for (String line : lines[sort]) {
                t.faulty(sort, line + " 1;", 1, line.length() + 1);
                t.faulty(sort, line + " x;", 1, line.length() + 1);
                t.faulty(sort, line, 1, line.length());
                if (line.indexOf(' ') > 0) {
                    String fewer = line.substring(0, line.lastIndexOf(' '));
                    t.faulty(sort, fewer + ";", 1, fewer.length());
                    t.faulty(sort, fewer + " ;", 1, fewer.length() + 1);
                    t.faulty(sort, fewer + " x;", 1, fewer.length() + 1);
                }
            }
        }
    }

    /** "{ .. ';'}": a ; stands behind each line, and nowhere else. */
    static void p05EachLineHasOneSemicolon(Telling t) {
        t.faulty(0, "houses 3;;", 1, 9);
        t.faulty(0, ";houses 3;", 1, 0);
        t.faulty(0, "houses 3 cat 1;", 1, 9);
        t.faulty(0, "houses; 3;", 1, 6);
        t.faulty(0, "houses 3,", 1, 8);
        t.faulty(0, "houses 3:", 1, 8);
    }

    /** "NUMBERS, 1 to 3 digits": one, two, three; zeros ahead count as digits. */
    static void p05OneToThreeDigits(Telling t) {
        t.right(1, "cap 1;cap 01;cap 001;cap 10;cap 999;");
        FathomNight x = t.told(null, "cap 007;", null, null);
        t.due("7", x.law(0, 1), 7);
    }

    /** "a longer row of digits is no token": four digits, where a NUMBER should be or not. */
    static void p05FourDigits(Telling t) {
        t.faulty(1, "cap 1000;", 1, 4);
        t.faulty(1, "cap 0001;", 1, 4);
        t.faulty(1, "mark 3;cap  0000;", 1, 12);
        t.faulty(1, "cap 9999999999;", 1, 4);
        t.faulty(1, "cap 4294967297;", 1, 4);
        t.faulty(1, "cap " + "1".repeat(590) + ";", 1, 4);
        t.faulty(1, "1000", 1, 0);
        t.faulty(1, "rate 1 1000;", 1, 7);
        t.faulty(1, "shared 1000", 1, 7);
        t.faulty(1, "cap 1 0000", 1, 6);
        t.faulty(1, "shared;1000", 1, 7);
    }

    /** "1 .. If there is none, the first by place": FAULT 1 behind others is the one. */
    static void p05OneAheadOfAllOthers(Telling t) {
        t.faulty(0, "houses 9;cat 9999;", 1, 13);
        t.faulty(0, "wine 0 0;".repeat(9) + "x", 1, 81);
        t.faulty(0, "cat 7;wine 8 0;cat", 1, 18);
        t.faulty(1, "mark 61;cap 0;!", 1, 14);
        t.faulty(2, "wait 36;sound", 1, 13);
        t.faulty(3, "quiet 9;".repeat(10) + ";", 1, 80);
    }

    /** "2 a NUMBER that can't be": from low to high it can; at low less 1 and high and 1 it can't. */
    private static void bounds(Telling t, int sort, String before, int low, int high, String after, String rest) {
        t.right(sort, before + low + after + rest);
        t.right(sort, before + high + after + rest);
        if (low > 0) {
            t.faulty(sort, before + (low - 1) + after + rest, 2, before.length());
        }
        if (high < 999) {
            t.faulty(sort, before + (high + 1) + after + rest, 2, before.length());
            t.faulty(sort, before + 999 + after + rest, 2, before.length());
        }
    }

    static void p05HousesTold(Telling t) {
        bounds(t, 0, "houses ", 1, 8, ";", "");
    }

    static void p05DoorsFirstHouse(Telling t) {
        bounds(t, 0, "door ", 0, 7, " 3 1;", "houses 8;");
    }

    static void p05DoorsSecondHouse(Telling t) {
        bounds(t, 0, "door 3 ", 0, 7, " 1;", "houses 8;");
    }

    static void p05DoorsUnits(Telling t) {
        bounds(t, 0, "door 3 2 ", 1, 9, ";", "");
    }

    /** "of door .. the second one, if it is the first" */
    static void p05DoorOfAHouseToItself(Telling t) {
        for (int h = 0; h < 8; h++) {
            t.faulty(0, "houses 8;door " + h + " " + h + " 1;", 2, 16);
        }
        t.faulty(0, "door 1 01 1;", 2, 7);
        t.faulty(0, "door 8 8 1;", 2, 5);
    }

    static void p05CatsHouse(Telling t) {
        bounds(t, 0, "cat ", 0, 7, ";", "houses 8;");
    }

    static void p05SleepersHouse(Telling t) {
        for (String manner : new String[] {"plain", "mother", "child", "rich"}) {
            bounds(t, 0, manner + " ", 0, 7, " 0 0 9 1 1;", "houses 8;");
        }
    }

    static void p05SleepersBed(Telling t) {
        for (String manner : new String[] {"plain", "mother", "child", "rich"}) {
            bounds(t, 0, manner + " 0 ", 0, 3, " 0 9 1 1;", "");
        }
    }

    static void p05SleepersLies(Telling t) {
        for (String manner : new String[] {"plain", "mother", "child", "rich"}) {
            bounds(t, 0, manner + " 0 0 ", 0, 35, " 36 1 1;", "");
        }
    }

    static void p05SleepersRises(Telling t) {
        for (String manner : new String[] {"plain", "mother", "child", "rich"}) {
            bounds(t, 0, manner + " 0 0 0 ", 1, 36, " 1 1;", "");
        }
    }

    /** "of a SLEEPER RISES, if it is not above LIES" */
    static void p05RisesNotAboveLies(Telling t) {
        for (String manner : new String[] {"plain", "mother", "child", "rich"}) {
            String line = manner + " 0 0 9 ";
            t.right(0, line + "10 1 1;");
            t.faulty(0, line + "9 1 1;", 2, line.length());
            t.faulty(0, line + "8 1 1;", 2, line.length());
        }
        t.right(0, "plain 0 0 35 36 1 1;");
        t.faulty(0, "plain 0 0 35 35 1 1;", 2, 13);
        t.faulty(0, "plain 0 0 36 35 1 1;", 2, 10);
    }

    static void p05SleepersSink(Telling t) {
        for (String manner : new String[] {"plain", "mother", "child", "rich"}) {
            bounds(t, 0, manner + " 0 0 0 9 ", 1, 9, " 1;", "");
        }
    }

    static void p05SleepersDeep(Telling t) {
        for (String manner : new String[] {"plain", "mother", "child", "rich"}) {
            bounds(t, 0, manner + " 0 0 0 9 1 ", 0, 60, ";", "");
        }
    }

    /** "wine, poppy: a SLEEPER, 0 .. 8" */
    static void p05WinesSleeper(Telling t) {
        bounds(t, 0, "wine ", 0, 8, " 0;", ALL);
    }

    static void p05WinesUnit(Telling t) {
        bounds(t, 0, "wine 0 ", 0, 35, ";", ALL);
    }

    static void p05PoppysSleeper(Telling t) {
        bounds(t, 0, "poppy ", 0, 8, " 0;", ALL);
    }

    static void p05PoppysUnit(Telling t) {
        bounds(t, 0, "poppy 0 ", 0, 35, ";", ALL);
    }

    static void p05StandsWho(Telling t) {
        t.right(0, "stands 0 8;stands 8 0;" + ALL);
        t.faulty(0, "stands 9 0;" + ALL, 2, 7);
        t.faulty(0, "stands 999 0;" + ALL, 2, 7);
    }

    static void p05StandsForWhom(Telling t) {
        bounds(t, 0, "stands 1 ", 0, 8, ";", ALL);
    }

    /** "of .. stands the second one, if it is the first" */
    static void p05StandsForHimself(Telling t) {
        for (int k = 0; k < 9; k++) {
            t.faulty(0, "stands " + k + " " + k + ";" + ALL, 2, 9);
        }
    }

    static void p05Mark(Telling t) {
        bounds(t, 1, "mark ", 0, 60, ";", "");
    }

    static void p05Cap(Telling t) {
        bounds(t, 1, "cap ", 1, 999, ";", "");
    }

    static void p05Fine(Telling t) {
        bounds(t, 1, "fine ", 0, 99, ";", "");
    }

    static void p05FreeHouse(Telling t) {
        bounds(t, 1, "free ", 0, 7, ";", "");
    }

    static void p05RatesWatch(Telling t) {
        bounds(t, 1, "rate ", 0, 8, " 0;", "");
    }

    static void p05RatesHowMuch(Telling t) {
        bounds(t, 1, "rate 8 ", 0, 9, ";", "");
    }

    static void p05BeginsHouse(Telling t) {
        bounds(t, 2, "begin ", 0, 7, " 0;", "");
    }

    static void p05BeginsUnit(Telling t) {
        bounds(t, 2, "begin 0 ", 0, 35, ";", "");
    }

    static void p05GoesHouse(Telling t) {
        bounds(t, 2, "go ", 0, 7, ";", "");
    }

    static void p05WaitsUnits(Telling t) {
        bounds(t, 2, "wait ", 1, 35, ";", "");
    }

    static void p05CaughtSleeper(Telling t) {
        bounds(t, 3, "caught ", 0, 8, ";", "");
    }

    static void p05QuietSleeper(Telling t) {
        bounds(t, 3, "quiet ", 0, 8, ";", "");
    }

    /** "the first by place": of several NUMBERS that can't be. */
    static void p05TheFirstByPlace(Telling t) {
        t.faulty(0, "cat 9;houses 0;", 2, 4);
        t.faulty(0, "cat 5;houses 9;cat 8;", 2, 13);
        t.faulty(0, "plain 9 9 99 99 99 99;", 2, 6);
        t.faulty(0, "plain 0 9 99 99 99 99;", 2, 8);
        t.faulty(1, "rate 9 99;", 2, 5);
    }

    /** "3 a 10th SLEEPER .. at its first token": nine may be. */
    static void p05TenthSleeper(Telling t) {
        t.right(0, SLEEPER.repeat(9));
        for (String manner : new String[] {"plain", "mother", "child", "rich"}) {
            t.right(0, SLEEPER.repeat(8) + manner + " 0 0 0 9 1 1;");
            t.faulty(0, SLEEPER.repeat(9) + " " + manner + " 0 0 0 9 1 1;", 3, 9 * 18 + 1);
        }
        t.right(0, SLEEPER.repeat(9) + "cat 0;wine 8 0;poppy 8 0;houses 5;");
    }

    /** "3 .. a 9th WINE": eight may be, of one SLEEPER or several. */
    static void p05NinthWine(Telling t) {
        t.right(0, SLEEPER + "wine 0 1;".repeat(8));
        t.faulty(0, SLEEPER + "wine 0 1;".repeat(9), 3, 18 + 72);
        t.faulty(0, SLEEPER.repeat(2) + "wine 0 1;wine 1 2;".repeat(5), 3, 36 + 72);
        t.right(0, SLEEPER + "wine 0 1;".repeat(8) + "poppy 0 1;" + SLEEPER);
    }

    /** "3 .. a 41st ACT": forty may be; begin is no ACT. */
    static void p05FortyFirstAct(Telling t) {
        t.right(2, "sound;".repeat(40));
        t.right(2, "go 1;wait 1;".repeat(20) + "begin 1 1;");
        for (String act : new String[] {"sound;", "go 1;", "wait 1;"}) {
            t.right(2, "sound;".repeat(39) + act);
            t.faulty(2, "sound;".repeat(40) + act, 3, 240);
        }
        t.faulty(2, "begin 0 0;" + "sound;".repeat(40) + "begin 1 1;\nsound;", 3, 261);
    }

    /** "3 .. a 9th row": eight may be, caught or quiet. */
    static void p05NinthRow(Telling t) {
        t.right(3, "caught 1;".repeat(8));
        t.right(3, "quiet 1;".repeat(8));
        t.faulty(3, "caught 1;".repeat(9), 3, 72);
        t.faulty(3, "quiet 1;".repeat(9), 3, 64);
        t.faulty(3, "caught 1;quiet 1;".repeat(4) + "quiet 1;", 3, 68);
    }

    /** "the first by place": of FAULTS 2 and 3 the one that stands ahead. */
    static void p05TwoAndThreeByPlace(Telling t) {
        t.faulty(0, SLEEPER.repeat(9) + "rich 9 0 0 0 0 0;", 3, 9 * 18);
        t.faulty(0, SLEEPER.repeat(10) + "houses 9;", 3, 9 * 18);
        t.faulty(0, "houses 9;" + SLEEPER.repeat(10), 2, 7);
        t.faulty(0, SLEEPER.repeat(8) + "plain 0 4 0 9 1 1;" + SLEEPER, 2, 8 * 18 + 8);
        t.faulty(2, "sound;".repeat(40) + "wait 0;", 3, 240);
        t.faulty(2, "sound;".repeat(39) + "wait 0;sound;", 2, 39 * 6 + 5);
        t.faulty(3, "quiet 1;".repeat(8) + "caught 9;", 3, 64);
    }

    /** "4 a HOUSE .. that was told of and is not there", at the end's place: of cat. */
    static void p05NoHouseOfACat(Telling t) {
        t.right(0, "cat 3;");
        t.faulty(0, "cat 4;", 4, 6);
        t.faulty(0, "cat 4; \n", 4, 8);
        t.right(0, "cat 4;houses 5;");
        t.faulty(0, "cat 4;houses 4;", 4, 15);
        t.faulty(0, "cat 7;cat 0;houses 7;", 4, 21);
    }

    /** "4 a HOUSE ..": of a DOOR, either one. */
    static void p05NoHouseOfADoor(Telling t) {
        t.right(0, "houses 2;door 0 1 1;");
        t.faulty(0, "houses 1;door 0 1 1;", 4, 20);
        t.faulty(0, "houses 1;door 1 0 1;", 4, 20);
        t.faulty(0, "door 4 0 1;", 4, 11);
        t.faulty(0, "door 0 4 1;", 4, 11);
        t.right(0, "door 7 6 1;houses 8;");
    }

    /** "4 a HOUSE ..": of a SLEEPER. */
    static void p05NoHouseOfASleeper(Telling t) {
        for (String manner : new String[] {"plain", "mother", "child", "rich"}) {
            t.right(0, manner + " 3 0 0 9 1 1;");
            t.faulty(0, manner + " 4 0 0 9 1 1;", 4, manner.length() + 13);
        }
    }

    /** "as many as are told": the latest of several is how many are there at the end. */
    static void p05HousesStruck(Telling t) {
        t.faulty(0, "houses 8;cat 7;houses 7;", 4, 24);
        t.right(0, "houses 7;cat 7;houses 8;");
    }

    /** "4 a .. SLEEPER that was told of and is not there": of WINE. */
    static void p05NoSleeperOfWine(Telling t) {
        t.faulty(0, "wine 0 0;", 4, 9);
        t.right(0, "wine 0 0;" + SLEEPER);
        t.faulty(0, SLEEPER + "wine 1 0;", 4, 27);
        t.faulty(0, SLEEPER + "wine 1 0;wine 0 0;", 4, 36);
    }

    /** "4 a .. SLEEPER ..": of POPPY. */
    static void p05NoSleeperOfPoppy(Telling t) {
        t.faulty(0, "poppy 0 0;", 4, 10);
        t.right(0, "poppy 0 0;" + SLEEPER);
        t.faulty(0, SLEEPER + "poppy 1 0;", 4, 28);
        t.faulty(0, SLEEPER.repeat(8) + "poppy 8 0;", 4, 154);
    }

    /** "4 a .. SLEEPER ..": of stands, who or for whom. */
    static void p05NoSleeperOfStands(Telling t) {
        String two = "rich 0 0 0 9 1 1;" + SLEEPER;
        t.right(0, two + "stands 1 0;");
        t.right(0, "stands 1 0;" + two);
        t.faulty(0, two + "stands 2 0;", 4, 46);
        t.faulty(0, two + "stands 1 2;", 4, 46);
    }

    /** "that was told of": also where a later line strikes it. */
    static void p05ToldOfThoughStruck(Telling t) {
        t.faulty(0, "rich 0 0 0 9 1 1;" + SLEEPER + "stands 1 3;stands 1 0;", 4, 57);
    }

    /** "a HOUSE or SLEEPER that was told of": any of several, the first one too. */
    static void p05AnyOneToldOf(Telling t) {
        String[] houses = {"cat 0;", "door 0 1 1;", "plain 0 0 0 9 1 1;"};
        String[] noHouses = {"cat 4;", "door 4 0 1;", "door 0 4 1;", "plain 4 0 0 9 1 1;"};
        for (String none : noHouses) {
            for (String there : houses) {
                t.faulty(0, none + there, 4, none.length() + there.length());
                t.faulty(0, there + none, 4, none.length() + there.length());
            }
        }
        String two = "rich 0 0 0 9 1 1;plain 0 0 0 9 1 1;";
        String[] sleepers = {"wine 0 0;", "poppy 1 0;", "stands 1 0;"};
        String[] noSleepers = {"wine 2 0;", "poppy 2 0;", "stands 2 0;", "stands 0 2;"};
        for (String none : noSleepers) {
            for (String there : sleepers) {
                t.faulty(0, two + none + there, 4, two.length() + none.length() + there.length());
                t.faulty(0, two + there + none, 4, two.length() + none.length() + there.length());
            }
        }
    }

    /** "that was told of": in this text, not in one before it. */
    static void p05ToldOfInThisText(Telling t) {
        FathomNight x = t.told(ALL + "cat 7;wine 8 0;poppy 8 0;stands 8 0;", null, null, null);
        t.due("an empty text", Telling.tell(x, 0, NONE, ""), 1);
        t.due("a FAULT", Telling.tell(x, 0, 1, "cat 7;wine 8 0;"), NONE);
        t.due("FAULT", x.fault(0), 4);
        t.due("one without", Telling.tell(x, 0, 1, "cat 0;plain 0 0 0 9 1 1;wine 0 0;"), 1);
        t.due("FAULT", x.fault(0), 0);
    }

    /** "of a STREET": LAWS, ROUNDS, CATCHES may tell of HOUSES and SLEEPERS that are nowhere. */
    static void p05FourOfAStreetAlone(Telling t) {
        t.right(1, "free 7;");
        t.right(2, "begin 7 0;go 7;");
        t.right(3, "caught 8;quiet 8;");
    }

    /** "5 one who STANDS in for another one of another HOUSE" */
    static void p05StandsInAnotherHouse(Telling t) {
        t.faulty(0, "rich 0 0 0 9 1 1;plain 1 0 0 9 1 1;stands 1 0;", 5, 46);
        t.faulty(0, "stands 0 1;plain 0 0 0 9 1 1;rich 1 0 0 9 1 1; ", 5, 47);
        t.right(0, "rich 1 0 0 9 1 1;plain 1 3 0 9 1 1;stands 1 0;");
    }

    /** "5 .. or for one who is not RICH" */
    static void p05StandsForOneNotRich(Telling t) {
        for (String manner : new String[] {"plain", "mother", "child"}) {
            t.faulty(0, manner + " 0 0 0 9 1 1;" + SLEEPER + "stands 1 0;", 5, manner.length() + 13 + 18 + 11);
        }
    }

    /** "5 ..": who stands in may be of any MANNER. */
    static void p05AnyMannerStandsIn(Telling t) {
        for (String manner : new String[] {"plain", "mother", "child", "rich"}) {
            t.right(0, "rich 0 0 0 9 1 1;" + manner + " 0 0 0 9 1 1;stands 1 0;");
        }
        t.right(0, "rich 0 0 0 9 1 1;rich 0 0 0 9 1 1;stands 1 0;stands 0 1;");
    }

    /** "Later ones strike": what stands at the end has no FAULT 5, or has it. */
    static void p05FiveOfWhatStands(Telling t) {
        String three = "rich 0 0 0 9 1 1;" + SLEEPER + "rich 1 0 0 9 1 1;";
        t.right(0, three + "stands 1 2;stands 1 0;");
        t.faulty(0, three + "stands 1 0;stands 1 2;", 5, 74);
    }

    /** "If there is none of these, at the end's place": FAULTS 2 and 3 are ahead of 4 and 5. */
    static void p05TwoAndThreeAheadOfFour(Telling t) {
        t.faulty(0, "cat 7;houses 9;", 2, 13);
        t.faulty(0, "wine 0 0;".repeat(9), 3, 72);
        t.faulty(0, SLEEPER.repeat(2) + "stands 0 1;door 0 1 0;", 2, 36 + 11 + 9);
    }

    /** "of one place the least": FAULT 4 is ahead of 5. */
    static void p05FourAheadOfFive(Telling t) {
        t.faulty(0, SLEEPER.repeat(2) + "stands 0 1;cat 4;", 4, 53);
        t.faulty(0, SLEEPER.repeat(2) + "stands 0 1;wine 2 0;", 4, 56);
    }
}
