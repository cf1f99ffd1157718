/** Each promise by itself, in its order: ordinary inputs, the edges that the document names, wrong inputs. */
public final class PromisesTest {
    private static final Telling T = new Telling();
    private static final int NONE = FathomNight.NONE;

    /** Two houses, a door of 2 UNITS, a RICH one of deep sleep with a PLAIN one who stands in for him. */
    private static final String RICH_STREET =
            "houses 2;door 0 1 2;rich 0 0 0 20 5 60;plain 0 1 2 20 1 60;plain 1 0 0 20 2 60;stands 1 0;";

    public static void main(String[] args) {
        p01newObject();
        p02feed();
        p03end();
        p04text();
        p05faultOne();
        p05faultsOfNumbers();
        p05faultsOfMany();
        p05faultsOfStreets();
        p06street();
        p07sleeper();
        p07late();
        p08wine();
        p09depth();
        p10law();
        p11act();
        p12stop();
        p13state();
        p13stateOfRich();
        p13charges();
        p14hours();
        p15seven();
        p16refuge();
        p17sold();
        p18quick();
        p19told();
        p20went();
        p21soonest();
        p22cats();
        p23standins();
        p24arrears();
        p25odds();
        p26drawn();
        p27loud();
        p28calm();
        p29paid();
        p30twice();
        p31share();
        p32trip();
        p33count();
        p34image();
        p35again();
        T.close("PromisesTest");
    }

    private static void due(String call, long got, long want) {
        T.due(call, got, want);
    }

    /** An object that was told a street, a law, a round and a catch; null for none. */
    private static FathomNight told(String street, String law, String round, String caught) {
        FathomNight x = new FathomNight();
        String[] texts = {street, law, round, caught};
        for (int sort = 0; sort < 4; sort++) {
            if (texts[sort] != null) {
                due("text " + texts[sort], Telling.tell(x, sort, NONE, texts[sort]), 0);
            }
        }
        return x;
    }

    private static void faulty(int sort, String text, int fault, int place) {
        FathomNight x = new FathomNight();
        due("text '" + text + "'", Telling.tell(x, sort, NONE, text), fault == 0 ? 0 : NONE);
        due("fault(0) of '" + text + "'", x.fault(0), fault);
        due("fault(1) of '" + text + "'", x.fault(1), place);
        due("count behind '" + text + "'", x.count(sort), fault == 0 ? 1 : 0);
    }

    private static void p01newObject() {
        FathomNight x = new FathomNight();
        for (int sort = 0; sort < 4; sort++) {
            due("count", x.count(sort), 0);
        }
        for (int k = 0; k < 3; k++) {
            T.due("again", x.again(k), false);
        }
        due("fault(0)", x.fault(0), 0);
        due("fault(1)", x.fault(1), NONE);
        due("end(1)", x.end(1), NONE);
        due("street", x.street(0, 0), NONE);
        due("sleeper", x.sleeper(0, 0, 0), -2);
        due("law", x.law(0, 0), NONE);
        due("act", x.act(0, NONE, 0), -2);
        due("told", x.told(0, NONE), -2);
        due("NONE", NONE, -1);
    }

    private static void p02feed() {
        FathomNight x = new FathomNight();
        for (int i = 1; i <= 30; i++) {
            due("feed " + i, x.feed(0x20202020, 0x0a202020, 0x20202020, 0x20202020, 0x20202020), 20 * i);
        }
        due("feed 31", x.feed(0, 0, 0, 0, 0), NONE);
        due("end", x.end(600), 600);
        due("blanks alone are a text", x.text(1, NONE), 0);
        due("feed", x.feed(0x6d61726b, 0x2036303b, 0x66696e65, 0x2039393b, 0x73686172), 20);
        due("feed", x.feed(0x65643b20, 0x20202020, 0x20202020, 0x20202020, 0x20202020), 40);
        due("text", x.text(1, 0), 0);
        due("mark", x.law(0, 0), 60);
        due("fine", x.law(0, 2), 99);
        due("shared", x.law(0, 4), 1);
        due("feed", x.feed(0x80000000, 0, 0, 0, 0), 20);
        due("text", x.text(1, 0), NONE);
        due("a high byte is a fault", x.fault(1), 0);
        Telling.put(x, " ".repeat(581), 0);
        due("there would be 601", x.feed(0, 0, 0, 0, 0), NONE);
        due("nothing came", x.end(582), NONE);
        due("all is there", x.end(581), 581);
        due("end", x.end(580), 580);
        due("there are 600", x.feed(0, 0, 0, 0, 0), 600);
    }

    private static void p03end() {
        FathomNight x = new FathomNight();
        due("end(0)", x.end(0), 0);
        due("end(1)", x.end(1), NONE);
        due("feed", x.feed(0x63617420, 0x303b6361, 0x7420313b, 0x63617420, 0x323b2020), 20);
        due("end(-1)", x.end(-1), NONE);
        due("end(21)", x.end(21), NONE);
        due("end(20)", x.end(20), 20);
        due("end(12)", x.end(12), 12);
        due("end(13)", x.end(13), NONE);
        due("text", x.text(0, NONE), 0);
        due("cats", x.street(0, 1), 3);
        due("end(least)", x.end(Integer.MIN_VALUE), NONE);
    }

    private static void p04text() {
        FathomNight x = new FathomNight();
        for (int sort = 0; sort < 4; sort++) {
            due("no such place", x.text(sort, 0), -2);
            due("no such place", x.text(sort, -2), -2);
            due("further", x.text(sort, NONE), 0);
            due("no such place", x.text(sort, 1), -2);
            due("further", x.text(sort, NONE), 1);
            due("as many as may be", x.text(sort, NONE), -2);
            due("no such place", x.text(sort, 2), -2);
            due("in its place", x.text(sort, 1), 1);
        }
        due("no such sort", x.text(4, NONE), -2);
        due("no such sort", x.text(-1, NONE), -2);
        due("a fault", Telling.tell(x, 0, 0, "houses 9;"), NONE);
        due("its fault", x.fault(0), 2);
        due("the tape is taken by a fault", x.end(1), NONE);
        Telling.put(x, "houses 2;", 0);
        due("no text is read", x.text(0, NONE), -2);
        due("FAULT 0", x.fault(0), 0);
        due("place NONE", x.fault(1), NONE);
        due("taken though there are as many as may be", x.end(1), NONE);
        Telling.put(x, "houses 2;", 0);
        due("no such place", x.text(0, 2), -2);
        due("taken though there is none such", x.end(1), NONE);
        Telling.put(x, "houses 2;", 0);
        due("no such sort", x.text(9, 0), -2);
        due("taken though there is no such sort", x.end(1), NONE);
        due("tape anew", x.feed(0, 0, 0, 0, 0), 20);
        due("no such sort", x.text(-1, NONE), -2);
        due("tape anew", x.feed(0, 0, 0, 0, 0), 20);
        due("tape cut", x.end(0), 0);
        due("nothing was read", x.street(1, 0), 4);
        due("in its place", Telling.tell(x, 0, 1, "houses 2;"), 1);
        due("the tape is taken", x.end(1), NONE);
        due("houses", x.street(1, 0), 2);
        due("houses of the other", x.street(0, 0), 4);
        due("a fault", Telling.tell(x, 0, 1, "houses 7;cat"), NONE);
        due("a fault changes nothing", x.street(1, 0), 2);
    }

    private static void p05faultOne() {
        faulty(0, "", 0, NONE);
        faulty(0, " \n ", 0, NONE);
        faulty(0, "houses3;cat2;", 0, NONE);
        faulty(0, "house 3;", 1, 0);
        faulty(0, "housess 3;", 1, 0);
        faulty(0, "houses", 1, 6);
        faulty(0, "houses  ", 1, 8);
        faulty(0, "houses 3", 1, 8);
        faulty(0, "houses 3 3;", 1, 9);
        faulty(0, "houses 3;;", 1, 9);
        faulty(0, "houses ;", 1, 7);
        faulty(0, "houses 0003;", 1, 7);
        faulty(0, "houses 003;", 0, NONE);
        faulty(0, "houses 3x;", 1, 8);
        faulty(0, "Houses 3;", 1, 0);
        faulty(0, "houses\t3;", 1, 6);
        faulty(0, "houses 3; 5", 1, 10);
        faulty(0, "houses 3,", 1, 8);
        faulty(0, "mark 3;", 1, 0);
        faulty(0, "plain 0 0 0 9 1;", 1, 15);
        faulty(0, "houses 9;cat 9999;", 1, 13);
        faulty(1, "houses 3;", 1, 0);
        faulty(1, "shared 1;", 1, 7);
        faulty(1, "rate 1;", 1, 6);
        faulty(2, "sound;go;", 1, 8);
        faulty(2, "sound 3;", 1, 6);
        faulty(3, "caught;", 1, 6);
        faulty(3, "quiet 1;loud 2;", 1, 8);
        FathomNight x = new FathomNight();
        due("fault(2)", x.fault(2), NONE);
        due("fault(-1)", x.fault(-1), NONE);
        Telling.tell(x, 0, NONE, "cat;");
        due("fault(0)", x.fault(0), 1);
        due("fault(1)", x.fault(1), 3);
        due("fault(2)", x.fault(2), NONE);
        Telling.tell(x, 0, NONE, "cat 1;");
        due("the latest text has none", x.fault(0), 0);
        due("the latest text has none", x.fault(1), NONE);
    }

    private static void p05faultsOfNumbers() {
        String[][] wrong = {
            {"0", "houses 0;", "houses 9;", "cat 8;", "door 8 0 1;", "wine 9 0;", "poppy 9 0;", "stands 9 0;"},
            {"1", "mark 61;", "cap 0;", "fine 100;", "free 8;", "rate 9 0;"},
            {"2", "begin 8 0;", "go 8;", "wait 0;", "wait 36;"},
            {"3", "caught 9;", "quiet 9;"}};
        for (String[] texts : wrong) {
            for (int i = 1; i < texts.length; i++) {
                faulty(Integer.parseInt(texts[0]), texts[i], 2, texts[i].indexOf(' ') + 1);
            }
        }
        faulty(0, "door 0 8 1;", 2, 7);
        faulty(0, "door 3 3 1;", 2, 7);
        faulty(0, "door 0 1 0;", 2, 9);
        faulty(0, "door 0 1 10;", 2, 9);
        faulty(0, "plain 8 0 0 9 1 1;", 2, 6);
        faulty(0, "plain 0 4 0 9 1 1;", 2, 8);
        faulty(0, "plain 0 0 36 9 1 1;", 2, 10);
        faulty(0, "mother 0 0 0 37 1 1;", 2, 13);
        faulty(0, "child 0 0 0 0 1 1;", 2, 12);
        faulty(0, "rich 0 0 9 9 1 1;", 2, 11);
        faulty(0, "rich 0 0 9 8 1 1;", 2, 11);
        faulty(0, "rich 0 0 35 36 1 1;", 0, NONE);
        faulty(0, "plain 0 0 0 9 0 1;", 2, 14);
        faulty(0, "plain 0 0 0 9 10 1;", 2, 14);
        faulty(0, "plain 0 0 0 9 1 61;", 2, 16);
        faulty(0, "wine 0 36;", 2, 7);
        faulty(0, "poppy 0 36;", 2, 8);
        faulty(0, "stands 0 9;", 2, 9);
        faulty(0, "stands 1 1;", 2, 9);
        faulty(1, "rate 0 10;", 2, 7);
        faulty(1, "mark 60;cap 999;cap 1;fine 99;free 7;rate 8 9;", 0, NONE);
        faulty(2, "begin 0 36;", 2, 8);
        faulty(2, "begin 7 35;go 7;wait 35;wait 1;", 0, NONE);
        faulty(0, "cat 9;houses 0;", 2, 4);
        faulty(0, "cat 5;houses 9;", 2, 13);
    }

    private static void p05faultsOfMany() {
        String sleeper = "plain 0 0 0 9 1 1;";
        faulty(0, sleeper.repeat(9), 0, NONE);
        faulty(0, sleeper.repeat(10), 3, 9 * 18);
        faulty(0, sleeper.repeat(9) + "rich 9 0 0 0 0 0;", 3, 9 * 18);
        faulty(0, sleeper.repeat(9) + " child 0 0 0 9 1 1;houses 9;", 3, 9 * 18 + 1);
        faulty(0, "houses 9;" + sleeper.repeat(10), 2, 7);
        faulty(0, sleeper + "wine 0 1;".repeat(8), 0, NONE);
        faulty(0, sleeper + "wine 0 1;".repeat(9), 3, 18 + 72);
        faulty(2, "sound;".repeat(40), 0, NONE);
        faulty(2, "go 1;wait 1;".repeat(20) + "sound;", 3, 240);
        faulty(2, "sound;".repeat(40) + "begin 1 1;", 0, NONE);
        faulty(3, "caught 1;".repeat(4) + "quiet 1;".repeat(4), 0, NONE);
        faulty(3, "quiet 1;".repeat(8) + "caught 9;", 3, 64);
    }

    private static void p05faultsOfStreets() {
        faulty(0, "cat 3;", 0, NONE);
        faulty(0, "cat 4; ", 4, 7);
        faulty(0, "cat 4;houses 5;", 0, NONE);
        faulty(0, "houses 8;cat 7;houses 7;", 4, 24);
        faulty(0, "houses 1;door 0 1 1;", 4, 20);
        faulty(0, "door 5 0 1;", 4, 11);
        faulty(0, "plain 4 0 0 9 1 1;", 4, 18);
        faulty(0, "wine 0 0;", 4, 9);
        faulty(0, "wine 0 0;plain 0 0 0 9 1 1;", 0, NONE);
        faulty(0, "poppy 1 0;plain 0 0 0 9 1 1;", 4, 28);
        String three = "rich 0 0 0 9 1 1;plain 0 0 0 9 1 1;rich 1 0 0 9 1 1;";
        faulty(0, three + "stands 1 0;", 0, NONE);
        faulty(0, three + "stands 3 0;", 4, 63);
        faulty(0, three + "stands 1 3;", 4, 63);
        faulty(0, three + "stands 1 3;stands 1 0;", 4, 74);
        faulty(0, three + "stands 1 2;", 5, 63);
        faulty(0, three + "stands 1 2;stands 1 0;", 0, NONE);
        faulty(0, three + "stands 0 1;", 5, 63);
        faulty(0, three + "stands 0 1;cat 6;", 4, 69);
        faulty(0, three + "rich 0 0 0 9 1 1;stands 0 3;stands 1 0;", 0, NONE);
    }

    private static void p06street() {
        FathomNight x = told("houses 3;door 2 0 9;door 0 2 4;door 0 1 1;cat 2;cat 0;cat 2;"
                + "plain 0 0 0 9 1 1;plain 0 0 0 9 1 1;wine 0 1;wine 0 1;wine 1 1;", null, null, null);
        due("houses", x.street(0, 0), 3);
        due("cats", x.street(0, 1), 5);
        due("sleepers", x.street(0, 2), 2);
        due("wine", x.street(0, 3), 3);
        due("door 0 2", x.street(0, 10 + 2), 4);
        due("door 2 0", x.street(0, 10 + 16), 4);
        due("door 0 1", x.street(0, 10 + 1), 1);
        due("door 1 2", x.street(0, 10 + 10), 0);
        due("door 0 0", x.street(0, 10), 0);
        due("door 0 3", x.street(0, 10 + 3), NONE);
        due("door 3 0", x.street(0, 10 + 24), NONE);
        due("door 7 7", x.street(0, 73), NONE);
        due("what 74", x.street(0, 74), NONE);
        due("what 4", x.street(0, 4), NONE);
        due("what 9", x.street(0, 9), NONE);
        due("what -1", x.street(0, -1), NONE);
        due("street 1", x.street(1, 0), NONE);
        due("street -1", x.street(-1, 0), NONE);
        due("an empty street", Telling.tell(x, 0, NONE, ""), 1);
        due("houses at first", x.street(1, 0), 4);
        due("cats at first", x.street(1, 1), 0);
        due("door 3 3", x.street(1, 10 + 27), 0);
        due("a street of 8", Telling.tell(x, 0, 1, "houses 8;door 6 7 9;"), 1);
        due("door 7 6", x.street(1, 10 + 62), 9);
    }

    private static void p07sleeper() {
        FathomNight x = told("rich 3 2 5 30 7 60;mother 0 3 35 36 9 0;child 1 0 0 1 1 7;plain 3 1 4 8 2 9;poppy 3 0;"
                + "poppy 0 35;poppy 0 6;stands 3 0;", null, null, null);
        int[][] rows = {{3, 3, 2, 5, 30, 7, 60, 6, NONE, 30}, {1, 0, 3, 35, 36, 9, 0, NONE, NONE, 36},
            {2, 1, 0, 0, 1, 1, 7, NONE, NONE, 1}, {0, 3, 1, 4, 8, 2, 9, 0, 0, 8}};
        for (int k = 0; k < 4; k++) {
            for (int what = 0; what < 10; what++) {
                due("sleeper " + k + " " + what, x.sleeper(0, k, what), rows[k][what]);
            }
            due("what 10", x.sleeper(0, k, 10), -2);
            due("what -1", x.sleeper(0, k, -1), -2);
        }
        due("sleeper 4", x.sleeper(0, 4, 0), -2);
        due("sleeper -1", x.sleeper(0, -1, 0), -2);
        due("street 1", x.sleeper(1, 0, 0), -2);
        Telling.tell(x, 0, 0, "rich 0 0 0 9 1 1;rich 0 0 0 9 1 1;plain 0 0 0 9 1 1;stands 2 0;stands 2 1;");
        due("a later stands strikes", x.sleeper(0, 2, 8), 1);
        due("no poppy stays of the one before", x.sleeper(0, 0, 7), NONE);
    }

    private static void p07late() {
        for (int unit = 0; unit < 36; unit++) {
            FathomNight x = told("plain 0 0 0 20 1 60;plain 0 0 0 35 1 60;wine 0 " + unit + ";wine 0 " + unit
                    + ";wine 1 " + unit + ";", null, null, null);
            due("up by wine at " + unit, x.sleeper(0, 0, 9), unit >= 12 && unit <= 19 ? 22 : 20);
            due("up, 36 at most, by wine at " + unit, x.sleeper(0, 1, 9), unit >= 27 && unit <= 34 ? 36 : 35);
        }
        FathomNight x = told("plain 0 0 20 22 1 60;wine 0 14;", null, null, null);
        due("late by wine ahead of lying down", x.sleeper(0, 0, 9), 24);
        due("asleep when late", x.depth(0, 0, 23), 3);
        due("up", x.depth(0, 0, 24), NONE);
    }

    private static void p08wine() {
        FathomNight x = told("plain 0 0 0 9 1 1;plain 0 0 0 9 1 1;wine 1 35;wine 0 0;wine 1 35;", null, null, null);
        int[][] rows = {{1, 35}, {0, 0}, {1, 35}};
        for (int k = 0; k < 3; k++) {
            due("who", x.wine(0, k, 0), rows[k][0]);
            due("unit", x.wine(0, k, 1), rows[k][1]);
            due("what 2", x.wine(0, k, 2), NONE);
            due("what -1", x.wine(0, k, -1), NONE);
        }
        due("wine 3", x.wine(0, 3, 0), NONE);
        due("wine -1", x.wine(0, -1, 0), NONE);
        due("street 1", x.wine(1, 0, 0), NONE);
    }

    private static void p09depth() {
        FathomNight x = told("plain 0 0 3 20 4 30;mother 0 0 3 20 4 30;child 0 0 3 20 4 30;rich 0 0 3 20 4 30;"
                + "poppy 3 8;wine 0 3;wine 0 9;wine 0 9;wine 1 3;", null, null, null);
        int[][] rows = {
            // unit, plain, mother, child, rich
            {2, NONE, NONE, NONE, NONE}, {3, 0, 0, 0, 0}, {4, 4 + 3, 4 + 3 - 1, 4, 4}, {8, 20 + 3, 20 + 3 - 1, 20, 20},
            {9, 24 + 6, 23, 24, 24}, {10, 28 + 6, 27, 28, 28}, {11, 30 + 6, 29, 30, 32}, {12, 36, 29, 30, 36},
            {13, 36, 29, 30, 39}, {14, 30 + 6, 29, 30, 39}, {15, 30, 29, 30, 39}, {19, 30, 29, 30, 39},
            {20, NONE, NONE, NONE, NONE}};
        for (int[] row : rows) {
            for (int k = 0; k < 4; k++) {
                due("depth " + k + " at " + row[0], x.depth(0, k, row[0]), row[1 + k]);
            }
        }
        due("unit -1", x.depth(0, 0, -1), -2);
        due("unit 36", x.depth(0, 0, 36), -2);
        due("sleeper 4", x.depth(0, 4, 3), -2);
        due("sleeper -1", x.depth(0, -1, 3), -2);
        due("street 1", x.depth(1, 0, 3), -2);
        x = told("mother 0 0 0 36 1 0;wine 0 30;poppy 0 33;", null, null, null);
        due("a mother's least", x.depth(0, 0, 1), 0);
        due("wine alone", x.depth(0, 0, 32), 2);
        due("poppy at that unit", x.depth(0, 0, 33), 9 + 3 - 1);
        due("the last unit", x.depth(0, 0, 35), 9 + 3 - 1);
    }

    private static void p10law() {
        FathomNight x = told(null, "mark 5;mark 60;cap 1;fine 99;free 7;free 0;free 7;shared;shared;rate 8 9;rate 0 3;"
                + "rate 0 0;", null, null);
        int[] row = {60, 1, 99, 129, 1, NONE};
        for (int what = 0; what < row.length; what++) {
            due("law " + what, x.law(0, what), row[what]);
        }
        due("rate 0", x.law(0, 10), 0);
        due("rate 1", x.law(0, 11), 1);
        due("rate 8", x.law(0, 18), 9);
        due("rate 9", x.law(0, 19), NONE);
        due("what 9", x.law(0, 9), NONE);
        due("what -1", x.law(0, -1), NONE);
        due("law 1", x.law(1, 0), NONE);
        due("law -1", x.law(-1, 0), NONE);
        Telling.tell(x, 1, 0, "");
        int[] first = {0, 999, 0, 0, 0};
        for (int what = 0; what < 5; what++) {
            due("law at first " + what, x.law(0, what), first[what]);
        }
        due("rate at first", x.law(0, 18), 1);
    }

    private static void p11act() {
        FathomNight x = told(null, null, "go 7;begin 3 4;sound;begin 5 35;wait 35;", null);
        due("acts", x.act(0, NONE, 0), 3);
        due("begin house", x.act(0, NONE, 1), 5);
        due("begin unit", x.act(0, NONE, 2), 35);
        due("what 3", x.act(0, NONE, 3), -2);
        due("what -1", x.act(0, NONE, -1), -2);
        int[][] rows = {{0, 7}, {1, NONE}, {2, 35}};
        for (int k = 0; k < 3; k++) {
            due("act " + k, x.act(0, k, 0), rows[k][0]);
            due("number of " + k, x.act(0, k, 1), rows[k][1]);
            due("what 2", x.act(0, k, 2), -2);
            due("what -1", x.act(0, k, -1), -2);
        }
        due("act 3", x.act(0, 3, 0), -2);
        due("act -2", x.act(0, -2, 0), -2);
        due("round 1", x.act(1, NONE, 0), -2);
        Telling.tell(x, 2, 0, "");
        due("no acts", x.act(0, NONE, 0), 0);
        due("begin at first", x.act(0, NONE, 1), 0);
        due("begin at first", x.act(0, NONE, 2), 0);
    }

    private static void stops(String street, String round, int stop) {
        due("stop of " + round, told(street, null, round, null).stop(0, 0), stop);
    }

    private static void p12stop() {
        String street = "houses 3;door 0 1 9;door 1 2 1;";
        stops(street, "", 0);
        stops(street, "sound;go 1;go 2;sound;", 4);
        stops(street, "sound;go 2;sound;", 1);
        stops(street, "sound;go 0;sound;", 1);
        stops(street, "sound;sound;go 5;sound;", 2);
        stops(street, "go 1;go 0;go 1;wait 8;sound;wait 1;", 5);
        stops(street, "begin 0 26;go 1;sound;", 2);
        stops(street, "begin 0 27;go 1;sound;", 0);
        stops(street, "begin 0 27;wait 8;sound;wait 1;", 2);
        stops(street, "wait 35;sound;", 2);
        stops(street, "begin 3 0;sound;wait 1;", 0);
        stops(street, "begin 2 0;sound;go 1;", 2);
        FathomNight x = told(street, null, "sound;", null);
        due("street 1", x.stop(1, 0), NONE);
        due("round 1", x.stop(0, 1), NONE);
        due("round -1", x.stop(0, -1), NONE);
    }

    private static void p13state() {
        // He sounds 0; comes to 1 at 3, whose neighbour 0 has a cat; comes back at 6; waits; sounds twice.
        FathomNight x = told("houses 2;door 0 1 3;cat 0;plain 0 0 0 9 2 60;child 0 0 0 9 2 60;plain 0 1 4 9 2 60;",
                "mark 1;cap 7;", "sound;go 1;sound;go 0;wait 1;sound;sound;wait 2;sound;", null);
        due("stop", x.stop(0, 0), 9);
        int[][] rows = {
            // n: house, unit, readings, wakings, due of all
            {0, 0, 0, 0, 0}, {0, 0, 1, 0, 0}, {1, 3, 1, 2, 0}, {1, 3, 1, 2, 0}, {0, 6, 1, 2, 0}, {0, 7, 1, 2, 0},
            {0, 7, 3, 2, 7 + 5}, {0, 7, 5, 2, 7 + 7}, {0, 9, 5, 2, 14}, {0, 9, 5, 2, 14}};
        for (int n = 0; n < rows.length; n++) {
            for (int what = 0; what < 5; what++) {
                due("state " + n + " " + what, x.state(0, 0, 0, n, what), rows[n][what]);
            }
        }
        due("due of 0 so far", x.state(0, 0, 0, 6, 10), 7);
        due("due of the child", x.state(0, 0, 0, 7, 11), 0);
        due("due of 2", x.state(0, 0, 0, 6, 12), 5);
        due("woken at no time", x.state(0, 0, 0, 1, 20), NONE);
        due("woken last", x.state(0, 0, 0, 2, 20), 3);
        due("the child woken last", x.state(0, 0, 0, 9, 21), 3);
        due("2 was not asleep", x.state(0, 0, 0, 9, 22), NONE);
        due("read at 0", x.state(0, 0, 0, 5, 30), 0);
        due("read at 7", x.state(0, 0, 0, 9, 30), 8);
        due("the child is not read", x.state(0, 0, 0, 9, 31), NONE);
        due("2 not read yet", x.state(0, 0, 0, 5, 32), NONE);
        due("2 read at 7", x.state(0, 0, 0, 6, 32), 6);
        int[] wrong = {-1, 5, 9, 13, 19, 23, 29, 33, 39, 40, 100, Integer.MAX_VALUE, Integer.MIN_VALUE};
        for (int what : wrong) {
            due("what " + what, x.state(0, 0, 0, 1, what), -2);
        }
        due("n -1", x.state(0, 0, 0, -1, 0), -2);
        due("n 10", x.state(0, 0, 0, 10, 0), -2);
        due("street 1", x.state(1, 0, 0, 0, 0), -2);
        due("law 1", x.state(0, 1, 0, 0, 0), -2);
        due("round 1", x.state(0, 0, 1, 0, 0), -2);
        x = told("houses 2;", "", "begin 5 6;sound;", null);
        due("begun in no house", x.state(0, 0, 0, 0, 0), 5);
        due("begun at 6", x.state(0, 0, 0, 0, 1), 6);
        due("no act can be", x.state(0, 0, 0, 1, 1), -2);
        x = told("houses 3;door 0 1 1;door 1 2 1;cat 0;cat 1;plain 1 0 0 9 3 60;plain 2 0 0 9 3 60;", "",
                "go 1;sound;go 2;go 1;sound;", null);
        due("not in the house he comes to", x.state(0, 0, 0, 1, 3), 0);
        due("in a neighbour with a cat alone", x.state(0, 0, 0, 3, 3), 1);
        due("woken at 2, read at 3", x.state(0, 0, 0, 5, 30), 3);
    }

    private static void p13stateOfRich() {
        FathomNight x = told(RICH_STREET, "", "sound;wait 4;sound;wait 1;sound;", null);
        due("read as one who is awake", x.state(0, 0, 0, 1, 30), 0);
        due("readings", x.state(0, 0, 0, 1, 2), 1);
        due("read as the stand-in", x.state(0, 0, 0, 3, 30), 2);
        due("the stand-in", x.state(0, 0, 0, 3, 31), 2);
        due("due", x.state(0, 0, 0, 5, 10), 2 + 3);
        x = told("rich 0 0 0 20 5 60;plain 0 0 0 20 3 60;child 0 0 0 20 2 60;stands 2 0;stands 1 0;", "",
                "wait 1;sound;", null);
        due("the least who does", x.state(0, 0, 0, 2, 30), 3);
        x = told("rich 0 0 0 20 5 60;rich 0 0 0 20 4 60;child 0 0 0 20 2 60;stands 1 0;stands 2 1;", "",
                "wait 1;sound;", null);
        due("a stand-in's own depth", x.state(0, 0, 0, 2, 30), 4);
        due("he is read by another", x.state(0, 0, 0, 2, 31), 2);
    }

    private static void p13charges() {
        String street = "houses 2;door 0 1 1;plain 0 0 0 36 1 60;plain 0 0 0 36 3 60;plain 0 1 0 36 5 60;"
                + "child 0 1 0 36 9 60;poppy 0 9;";
        String round = "wait 8;sound;wait 1;sound;";
        FathomNight x = told(street, "mark 10;rate 2 4;fine 2;", round, null);
        due("less than mark, fine at 9", x.state(0, 0, 0, 4, 10), 2);
        due("rate of the watch", x.state(0, 0, 0, 4, 11), (14 + 17) * 4);
        due("rate of the watch", x.state(0, 0, 0, 4, 12), (30 + 35) * 4);
        due("all", x.state(0, 0, 0, 4, 4), 2 + 31 * 4 + 65 * 4);
        x = told(street, "mark 10;rate 2 4;fine 2;shared;", round, null);
        due("the greatest of his bed", x.state(0, 0, 0, 4, 10), (14 + 17) * 4 + 2);
        due("his own is the greatest", x.state(0, 0, 0, 4, 11), (14 + 17) * 4);
        due("a child is not read", x.state(0, 0, 0, 4, 12), (30 + 35) * 4);
        due("latest reading is his own", x.state(0, 0, 0, 4, 30), 9);
        x = told(street, "mark 10;fine 2;free 0;", round, null);
        due("a free house", x.state(0, 0, 0, 4, 4), 0);
        due("readings in a free house", x.state(0, 0, 0, 4, 2), 6);
        x = told(street, "mark 10;fine 2;free 1;cap 3;", round, null);
        due("each by the cap", x.state(0, 0, 0, 4, 4), 2 + 3 + 3);
        x = told(street, "rate 2 0;fine 5;", round, null);
        due("fine alone by rate 0", x.state(0, 0, 0, 4, 4), 5);
    }

    private static void p14hours() {
        FathomNight x = told("houses 2;door 0 1 3;plain 0 0 0 9 1 9;plain 0 0 2 36 1 9;child 0 0 0 36 1 9;"
                + "plain 1 0 0 36 1 9;", null, "sound;sound;go 1;sound;wait 1;sound;go 0;sound;wait 28;sound;go 1;", null);
        int[] due = {2 + 1, 1 + 2, 0, 0, 0, 0, 0, 0, 1};
        for (int w = 0; w < 9; w++) {
            due("hours " + w, x.hours(0, 0, w), due[w]);
        }
        due("watch 9", x.hours(0, 0, 9), NONE);
        due("watch -1", x.hours(0, 0, -1), NONE);
        due("street 1", x.hours(1, 0, 0), NONE);
        due("round 1", x.hours(0, 1, 0), NONE);
    }

    private static void p15seven() {
        FathomNight x = told("plain 0 0 0 9 3 60;mother 0 0 20 30 2 60;", "mark 2;", "wait 10;sound;", null);
        // At 10 by LIES 8: 6 less 2; 2 * 2 - 1 = 3 less 2.
        due("least", x.seven(0, 0, 0, 0), 4 + 1);
        due("lies of 0", x.seven(0, 0, 0, 10), 8);
        due("lies of 1", x.seven(0, 0, 0, 11), 8);
        due("lies of nobody", x.seven(0, 0, 0, 12), NONE);
        due("what 1", x.seven(0, 0, 0, 1), NONE);
        due("what 9", x.seven(0, 0, 0, 9), NONE);
        due("what -1", x.seven(0, 0, 0, -1), NONE);
        due("as told all the same", x.sleeper(0, 1, 3), 20);
        x = told("plain 0 0 0 9 3 60;", "", "sound;wait 32;sound;", null);
        due("awake at both, from 0", x.seven(0, 0, 0, 0), 0);
        due("from 1 to 29", x.seven(0, 0, 0, 10), 0);
        x = told("plain 0 0 0 9 1 60;plain 0 0 0 9 1 60;wine 0 33;", "", "wait 35;sound;", null);
        due("up at 36 by wine", x.seven(0, 0, 0, 0), 0);
        due("the first", x.seven(0, 0, 0, 10), 0);
        x = told("plain 0 0 0 9 5 60;plain 0 0 0 9 1 60;", "shared;", "wait 7;sound;wait 27;sound;", null);
        // At 7: he lies at 7 or later; at 34 he is up, if he lay down at 6 or ahead.
        due("by shared beds", x.seven(0, 0, 0, 0), 5 + 5);
        due("lies of 0", x.seven(0, 0, 0, 10), 6);
        due("lies of 1, who is not deeper then", x.seven(0, 0, 0, 11), 2);
        x = told("", "", "", null);
        due("nobody", x.seven(0, 0, 0, 0), 0);
        due("nobody's", x.seven(0, 0, 0, 10), NONE);
        due("street 1", x.seven(1, 0, 0, 0), NONE);
        due("law 1", x.seven(0, 1, 0, 0), NONE);
        due("round 1", x.seven(0, 0, 1, 0), NONE);
        x = told("plain 0 0 0 9 1 60;".repeat(5), "", "wait 8;sound;", null);
        due("five", x.seven(0, 0, 0, 0), 0);
        due("the fifth", x.seven(0, 0, 0, 14), 8);
        x = told("plain 0 0 0 9 1 60;".repeat(6), "", "wait 8;sound;", null);
        due("six", x.seven(0, 0, 0, 0), NONE);
    }

    private static void p16refuge() {
        FathomNight x = told("plain 0 0 2 30 3 60;child 0 0 0 30 3 60;plain 1 0 0 30 3 60;", "mark 5;",
                "wait 10;sound;wait 10;sound;", null);
        // Unwoken 24 - 5 and 54 - 5; woken at 10: 0 and 25; at 19: 19 and 0; at 15: 19 and 10.
        due("due", x.refuge(0, 0, 0, 0, false), 19);
        due("unit", x.refuge(0, 0, 0, 0, true), 19);
        due("a child's due", x.refuge(0, 0, 0, 1, false), 0);
        due("a child's unit", x.refuge(0, 0, 0, 1, true), 0);
        due("not sounded", x.refuge(0, 0, 0, 2, true), 0);
        due("sleeper 3", x.refuge(0, 0, 0, 3, true), NONE);
        due("sleeper -1", x.refuge(0, 0, 0, -1, false), NONE);
        due("street 1", x.refuge(1, 0, 0, 0, false), NONE);
        due("law 1", x.refuge(0, 1, 0, 0, false), NONE);
        due("round 1", x.refuge(0, 0, 1, 0, false), NONE);
        x = told(RICH_STREET, "", "wait 10;sound;", null);
        due("he is read by another", x.refuge(0, 0, 0, 0, false), 8);
        due("of all alike the first", x.refuge(0, 0, 0, 0, true), 0);
        due("who stands in", x.refuge(0, 0, 0, 1, false), 0);
        due("when he is sounded", x.refuge(0, 0, 0, 1, true), 10);
        x = told("plain 0 0 0 30 3 60;plain 0 0 0 30 1 60;", "shared;cap 9;", "wait 8;sound;wait 2;sound;wait 2;sound;", null);
        due("cap", x.refuge(0, 0, 0, 1, false), 9);
        due("the other one in his bed", x.refuge(0, 0, 0, 0, false), 9);
        due("cap at all units", x.refuge(0, 0, 0, 0, true), 0);
        x = told("plain 0 0 0 30 3 60;plain 0 0 0 30 1 60;", "shared;", "wait 8;sound;", null);
        due("the other's reading", x.refuge(0, 0, 0, 0, false), 8);
        due("2 * 3 is less", x.refuge(0, 0, 0, 0, true), 6);
        x = told("houses 2;door 0 1 4;cat 0;plain 0 0 0 30 2 60;", "", "go 1;go 0;sound;", null);
        due("the cat woke him at 4", x.state(0, 0, 0, 3, 30), 8);
        due("alarm behind the cat", x.refuge(0, 0, 0, 0, true), 8);
    }

    private static void p17sold() {
        FathomNight x = told("houses 4;door 0 1 2;door 1 2 2;door 0 2 5;door 2 3 9;plain 0 0 0 36 1 60;plain 1 0 0 36 2 60;"
                + "plain 2 0 0 36 3 60;plain 3 0 0 36 9 60;", "", null, null);
        // 0 1 2 3: 4 + 12 + 60; 0 2 3: 15 + 60; 0 2 1: 15 + 14.
        int[] row = {76, 4};
        due("sum", x.sold(0, 0, 0), row[0]);
        due("houses", x.sold(0, 0, 1), row[1]);
        for (int i = 0; i < 4; i++) {
            due("house " + i, x.sold(0, 0, 10 + i), i);
        }
        due("house 4", x.sold(0, 0, 14), NONE);
        due("what 2", x.sold(0, 0, 2), NONE);
        due("what 9", x.sold(0, 0, 9), NONE);
        due("what -1", x.sold(0, 0, -1), NONE);
        due("street 1", x.sold(1, 0, 0), NONE);
        due("law 1", x.sold(0, 1, 0), NONE);
        x = told("houses 3;door 0 1 2;door 0 2 2;plain 1 0 0 36 2 60;plain 2 0 0 36 2 60;", "cap 1;", null, null);
        due("no cap", x.sold(0, 0, 0), 4);
        due("the first row", x.sold(0, 0, 11), 1);
        due("a shorter one", x.sold(0, 0, 1), 2);
        x = told("houses 3;door 0 1 2;door 1 2 2;cat 1;plain 1 0 0 36 2 60;", "free 1;", null, null);
        due("nothing", x.sold(0, 0, 0), 0);
        due("the shortest", x.sold(0, 0, 1), 1);
        x = told("houses 3;door 0 1 9;door 1 2 9;cat 1;plain 0 0 0 36 2 60;plain 1 0 0 36 2 60;", "shared;", null, null);
        due("house 0 is sounded first, at 0", x.sold(0, 0, 0), 18);
        x = told("houses 1;plain 0 0 0 36 2 60;poppy 0 0;", "fine 8;", null, null);
        due("fine at unit 0", x.sold(0, 0, 0), 8);
        String far = "houses 5;door 0 1 9;door 1 2 9;door 2 3 9;plain 4 0 34 36 5 60;";
        due("at 35", told(far + "door 3 4 8;", "", null, null).sold(0, 0, 0), 5);
        due("behind 35", told(far + "door 3 4 9;", "", null, null).sold(0, 0, 0), 0);
    }

    private static void p18quick() {
        FathomNight x = told("houses 5;door 0 1 9;door 0 2 2;door 2 3 2;door 3 1 2;", null, null, null);
        due("by others", x.quick(0, 0, 1), 6);
        due("back", x.quick(0, 1, 0), 6);
        due("at once", x.quick(0, 2, 3), 2);
        due("to itself", x.quick(0, 3, 3), 0);
        due("by none", x.quick(0, 0, 4), NONE);
        due("no such house", x.quick(0, 0, 5), NONE);
        due("no such house", x.quick(0, -1, 0), NONE);
        due("no such house", x.quick(0, 5, 5), NONE);
        due("no such street", x.quick(1, 0, 1), NONE);
        x = told("houses 8;door 0 1 9;door 1 2 9;door 2 3 9;door 3 4 9;door 4 5 9;door 5 6 9;door 6 7 9;", null, null, null);
        due("longer than a night", x.quick(0, 0, 7), 63);
    }

    private static void p19told() {
        FathomNight x = told(null, null, null, "caught 8;quiet 0;quiet 8;caught 8;");
        due("rows", x.told(0, NONE), 4);
        int[] rows = {18, 0, 8, 18};
        for (int k = 0; k < 4; k++) {
            due("row " + k, x.told(0, k), rows[k]);
        }
        due("row 4", x.told(0, 4), -2);
        due("row -2", x.told(0, -2), -2);
        due("catch 1", x.told(1, NONE), -2);
        due("catch -1", x.told(-1, NONE), -2);
        Telling.tell(x, 3, 0, "");
        due("no rows", x.told(0, NONE), 0);
        due("row 0", x.told(0, 0), -2);
    }

    private static void p20went() {
        String street = "houses 3;door 0 1 2;door 0 2 3;cat 0;cat 1;cat 2;plain 1 0 0 36 2 60;plain 2 0 0 36 3 60;"
                + "child 0 0 0 36 9 60;";
        FathomNight x = told(street, "mark 4;", null, "");
        long[] all = {1, 2, 4, 8, 16, 32, 64, 128};
        for (int n = 0; n <= 7; n++) {
            due("all rows of " + n, x.went(0, 0, 0, n, NONE), n % 2 == 0 ? all[n / 2] : all[n / 2 + 1]);
        }
        due("n 8", x.went(0, 0, 0, 8, NONE), NONE);
        due("n -1", x.went(0, 0, 0, -1, NONE), NONE);
        due("house 3", x.went(0, 0, 0, 1, 3), NONE);
        due("house -2", x.went(0, 0, 0, 1, -2), NONE);
        due("street 1", x.went(1, 0, 0, 1, NONE), NONE);
        due("law 1", x.went(0, 1, 0, 1, NONE), NONE);
        due("catch 1", x.went(0, 0, 1, 1, NONE), NONE);
        x = told(street, "mark 4;", null, "caught 1;quiet 0;");
        // 0 at 4 in 1 is quiet at 2 alone; 1 in 2 at 3 or later is caught.
        due("0 2", x.went(0, 0, 0, 1, NONE), 1);
        due("0 2 0", x.went(0, 0, 0, 2, NONE), 1);
        due("0 2 0 2, 0 1 0 2", x.went(0, 0, 0, 3, NONE), 2);
        due("ends at 2", x.went(0, 0, 0, 3, 2), 2);
        due("ends at 1", x.went(0, 0, 0, 3, 1), 0);
        x = told(street, "mark 4;", null, "caught 1;quiet 1;");
        due("neither so nor so", x.went(0, 0, 0, 3, NONE), 0);
        x = told(street, "mark 4;", null, "caught 2;");
        due("a child never is", x.went(0, 0, 0, 4, NONE), 0);
        x = told(street, "mark 4;", null, "quiet 2;quiet 2;");
        due("a child is quiet", x.went(0, 0, 0, 4, NONE), 4);
        x = told(street, "mark 4;", null, "caught 1;quiet 3;");
        due("3 is not there", x.went(0, 0, 0, 1, NONE), NONE);
        due("3 is not there", x.soonest(0, 0, 0, 1), NONE);
        x = told("houses 2;door 0 1 6;", "", null, "");
        due("5 times", x.went(0, 0, 0, 5, NONE), 1);
        due("6 times are behind 35", x.went(0, 0, 0, 6, NONE), 0);
        x = told("houses 2;door 0 1 7;", "", null, "");
        due("at 35", x.went(0, 0, 0, 5, 1), 1);
        x = told("houses 8;door 0 1 1;door 0 2 1;door 0 3 1;door 1 2 1;door 1 3 1;door 2 3 1;", "", null, "");
        due("3 to the 7th", x.went(0, 0, 0, 7, NONE), 2187);
        x = told("houses 2;door 0 1 1;plain 0 0 0 36 9 60;plain 0 0 0 36 1 60;", "mark 3;shared;", null, "caught 0;quiet 1;");
        due("his own reading", x.went(0, 0, 0, 2, NONE), 1);
    }

    private static void p21soonest() {
        String street = "houses 3;door 0 1 2;door 0 2 3;plain 1 0 0 36 2 60;plain 2 0 0 36 3 60;";
        FathomNight x = told(street, "mark 4;", null, "caught 1;quiet 0;");
        due("none", x.soonest(0, 0, 0, 0), NONE);
        due("0 2", x.soonest(0, 0, 0, 1), 3);
        due("0 2 0", x.soonest(0, 0, 0, 2), 6);
        due("0 1 0 2", x.soonest(0, 0, 0, 3), 7);
        due("n 8", x.soonest(0, 0, 0, 8), NONE);
        due("n -1", x.soonest(0, 0, 0, -1), NONE);
        due("street 1", x.soonest(1, 0, 0, 1), NONE);
        due("law 1", x.soonest(0, 1, 0, 1), NONE);
        due("catch 1", x.soonest(0, 0, 1, 1), NONE);
        x = told(street, "mark 4;", null, "");
        due("nothing passed", x.soonest(0, 0, 0, 0), 0);
    }

    private static void p22cats() {
        FathomNight x = told("houses 5;door 0 1 1;door 1 2 1;door 2 3 1;door 3 4 1;cat 4;", null, null, null);
        due("how many", x.cats(0, false), 2);
        due("which, 1 and 3 would do too", x.cats(0, true), 1 + 8);
        x = told("houses 4;door 0 1 1;door 1 2 1;door 2 3 1;door 3 0 1;", null, null, null);
        due("of several the least", x.cats(0, true), 3);
        x = told("houses 1;", null, null, null);
        due("one house", x.cats(0, true), 1);
        x = told("houses 8;", null, null, null);
        due("no doors", x.cats(0, false), 8);
        due("no doors", x.cats(0, true), 255);
        due("street 1", x.cats(1, true), NONE);
        due("street -1", x.cats(-1, false), NONE);
    }

    private static void p23standins() {
        FathomNight x = told(RICH_STREET, "", "wait 10;sound;", null);
        due("nobody, or 1", x.standins(0, 0, 0, false), 2);
        due("least by 1", x.standins(0, 0, 0, true), 8 + 8);
        due("street 1", x.standins(1, 0, 0, false), NONE);
        due("law 1", x.standins(0, 1, 0, false), NONE);
        due("round 1", x.standins(0, 0, 1, true), NONE);
        x = told("rich 0 0 0 9 1 60;rich 0 0 0 9 5 60;plain 0 0 0 9 2 60;plain 0 0 0 9 9 60;mother 0 0 0 9 1 60;"
                + "rich 1 0 0 9 1 60;stands 4 1;", "", "wait 5;sound;", null);
        // Two of one house by two plain ones: 1 + 4 + 2; the one of another house has none.
        due("ways", x.standins(0, 0, 0, false), 7);
        due("5 + 10 for 25, 10, 45, 4", x.standins(0, 0, 0, true), 5 + 10 + 10 + 45 + 4);
        due("as told all the same", x.sleeper(0, 4, 8), 1);
        x = told("rich 0 0 0 9 1 60;".repeat(4) + "plain 0 0 0 9 1 60;".repeat(5), "", "wait 5;sound;", null);
        due("four rich ones", x.standins(0, 0, 0, false), 1 + 4 * 5 + 6 * 20 + 4 * 60 + 120);
        x = told("rich 0 0 0 9 1 60;".repeat(5), "", "wait 5;sound;", null);
        due("five rich ones", x.standins(0, 0, 0, false), NONE);
        due("five rich ones", x.standins(0, 0, 0, true), NONE);
        x = told("plain 0 0 0 9 1 60;", "", "wait 5;sound;", null);
        due("no rich one", x.standins(0, 0, 0, false), 1);
        due("no rich one", x.standins(0, 0, 0, true), 5);
    }

    private static void p24arrears() {
        FathomNight x = told("plain 0 0 0 20 3 60;plain 0 0 0 20 1 60;wine 0 19;", "mark 5;", "wait 6;sound;", null);
        // 13 due, 78 a week, asleep for 22; 1 due, 6 a week, asleep for 20.
        due("no week", x.arrears(0, 0, 0, 0, 0), 0);
        due("a week", x.arrears(0, 0, 0, 0, 1), 78 - 22);
        due("99 weeks", x.arrears(0, 0, 0, 0, 99), 99 * 56);
        due("0 at least", x.arrears(0, 0, 0, 1, 99), 0);
        due("100 weeks", x.arrears(0, 0, 0, 0, 100), NONE);
        due("-1 weeks", x.arrears(0, 0, 0, 0, -1), NONE);
        due("sleeper 2", x.arrears(0, 0, 0, 2, 1), NONE);
        due("street 1", x.arrears(1, 0, 0, 0, 1), NONE);
        due("law 1", x.arrears(0, 1, 0, 0, 1), NONE);
        due("round 1", x.arrears(0, 0, 1, 0, 1), NONE);
    }

    private static void p25odds() {
        FathomNight x = told("plain 0 0 2 6 2 60;plain 0 0 0 36 9 60;child 0 0 0 9 9 60;rich 1 0 0 4 9 60;plain 1 0 2 9 3 60;"
                + "stands 4 3;poppy 0 4;", "mark 1;rate 1 3;fine 1;shared;", null, null);
        // At 2, 3, 4, 5: 0, 2, 4, 6: 0, 1, 3 * 3 + 1, 5 * 3 + 1: 27 by 4.
        due("above", x.odds(0, 0, 0, false), 27);
        due("under", x.odds(0, 0, 0, true), 4);
        due("a child", x.odds(0, 0, 2, false), 0);
        due("a child", x.odds(0, 0, 2, true), 1);
        // At 0 .. 3: 0, 0, 0, 3.
        due("by one who stands in", x.odds(0, 0, 3, false), 1);
        due("by one who stands in", x.odds(0, 0, 3, true), 2);
        due("sleeper 5", x.odds(0, 0, 5, true), NONE);
        due("street 1", x.odds(1, 0, 0, true), NONE);
        due("law 1", x.odds(0, 1, 0, true), NONE);
        x = told("plain 0 0 2 6 2 60;", "mark 60;", null, null);
        due("nothing", x.odds(0, 0, 0, false), 0);
        due("by 1", x.odds(0, 0, 0, true), 1);
        x = told("plain 0 0 2 6 2 60;poppy 0 0;", "fine 9;free 0;", null, null);
        due("a free house", x.odds(0, 0, 0, false), 0);
        x = told("plain 0 0 0 2 2 60;poppy 0 0;", "fine 9;", null, null);
        due("fine from unit 0 on", x.odds(0, 0, 0, false), 9 + 1);
    }

    private static void p26drawn() {
        FathomNight x = told("plain 0 0 0 36 1 60;plain 0 0 0 36 2 60;wine 0 9;wine 0 9;", "mark 12;", "wait 10;sound;", null);
        int[] dues = new int[2];
        int nights = 0;
        int seed = -77;
        for (int i = 1; i <= 30; i++) {
            boolean above = false;
            for (int k = 0; k < 2; k++) {
                seed = seed * 1103515245 + 12345;
                int read = k == 0 ? 10 : 20;
                if ((seed >>> 16) % 4 == 0) {
                    seed = seed * 1103515245 + 12345;
                    int unit = (seed >>> 16) % 36;
                    read += unit >= 5 && unit <= 10 ? 3 : 0;
                }
                dues[k] += Math.max(0, read - 12);
                above |= read > 12;
            }
            nights += above ? 1 : 0;
            due("due of all, " + i, x.drawn(0, 0, 0, -77, i, 0), dues[0] + dues[1]);
            due("nights, " + i, x.drawn(0, 0, 0, -77, i, 1), nights);
            due("due of 0, " + i, x.drawn(0, 0, 0, -77, i, 10), dues[0]);
            due("due of 1, " + i, x.drawn(0, 0, 0, -77, i, 11), dues[1]);
        }
        due("wine as told all the same", x.street(0, 3), 2);
        due("no night", x.drawn(0, 0, 0, 5, 0, 0), 0);
        due("no night", x.drawn(0, 0, 0, 5, 0, 1), 0);
        due("31 nights", x.drawn(0, 0, 0, 5, 31, 0), NONE);
        due("-1 nights", x.drawn(0, 0, 0, 5, -1, 0), NONE);
        due("what 2", x.drawn(0, 0, 0, 5, 1, 2), NONE);
        due("what 12", x.drawn(0, 0, 0, 5, 1, 12), NONE);
        due("what -1", x.drawn(0, 0, 0, 5, 1, -1), NONE);
        due("street 1", x.drawn(1, 0, 0, 5, 1, 0), NONE);
        due("law 1", x.drawn(0, 1, 0, 5, 1, 0), NONE);
        due("round 1", x.drawn(0, 0, 1, 5, 1, 0), NONE);
    }

    private static void p27loud() {
        FathomNight x = told("plain 0 0 0 9 1 60;child 1 0 0 9 3 60;plain 0 0 0 9 3 60;rich 0 0 9 12 1 60;"
                + "plain 0 0 20 30 9 60;stands 2 3;", null, null, null);
        due("a child, the least of two", x.loud(0, 5, false), 1);
        due("his depth", x.loud(0, 5, true), 15);
        due("of all at 0 the least", x.loud(0, 0, false), 0);
        due("0", x.loud(0, 0, true), 0);
        due("one alone", x.loud(0, 9, false), 3);
        due("nobody", x.loud(0, 15, false), NONE);
        due("nobody's", x.loud(0, 15, true), NONE);
        due("unit 36", x.loud(0, 36, false), NONE);
        due("unit -1", x.loud(0, -1, true), NONE);
        due("street 1", x.loud(1, 5, false), NONE);
    }

    private static void p28calm() {
        FathomNight x = told("plain 0 0 0 10 2 60;child 1 0 0 36 9 60;rich 2 0 20 30 9 60;mother 2 0 20 30 1 60;stands 3 2;",
                "mark 4;free 0;", null, null);
        // Not calm: 3 .. 9 by the plain one; at 26 and behind, 20 + 6 less 1, by the mother.
        due("calm", x.calm(0, 0), 36 - 7 - 4);
        due("street 1", x.calm(1, 0), NONE);
        due("law 1", x.calm(0, 1), NONE);
        x = told("", "", null, null);
        due("nobody", x.calm(0, 0), 36);
    }

    private static void p29paid() {
        FathomNight x = told("plain 0 0 0 36 4 60;plain 0 0 0 36 2 60;child 0 0 0 36 9 60;plain 0 0 0 36 2 60;", "",
                "wait 1;sound;", null);
        int[][] rows = {{0, 4}, {1, 4}, {2, 6}, {3, 6}, {4, 14}, {5, 14}, {6, 7}, {7, 7}, {8, 15}, {9999, 15}};
        for (int[] row : rows) {
            due("who by " + row[0], x.paid(0, 0, 0, row[0], true), row[1]);
            due("how many by " + row[0], x.paid(0, 0, 0, row[0], false), Integer.bitCount(row[1]));
        }
        due("10000", x.paid(0, 0, 0, 10000, true), NONE);
        due("-1", x.paid(0, 0, 0, -1, false), NONE);
        due("street 1", x.paid(1, 0, 0, 1, false), NONE);
        due("law 1", x.paid(0, 1, 0, 1, false), NONE);
        due("round 1", x.paid(0, 0, 1, 1, false), NONE);
        x = told("plain 0 0 0 36 1 60;", "", "wait 1;sound;", null);
        due("nobody", x.paid(0, 0, 0, 0, true), 0);
    }

    private static void p30twice() {
        FathomNight x = told("plain 0 0 2 30 3 60;child 0 0 0 30 3 60;", "mark 5;", "wait 10;sound;wait 10;sound;", null);
        due("due", x.twice(0, 0, 0, 0, false), 0);
        due("units", x.twice(0, 0, 0, 0, true), 9 * 36 + 19);
        due("a child", x.twice(0, 0, 0, 1, false), 0);
        due("a child", x.twice(0, 0, 0, 1, true), 0);
        due("sleeper 2", x.twice(0, 0, 0, 2, false), NONE);
        due("street 1", x.twice(1, 0, 0, 0, false), NONE);
        due("law 1", x.twice(0, 1, 0, 0, false), NONE);
        due("round 1", x.twice(0, 0, 1, 0, false), NONE);
        x = told("plain 0 0 2 30 3 60;", "mark 5;", "wait 10;sound;", null);
        due("one is enough", x.twice(0, 0, 0, 0, true), 9);
        x = told(RICH_STREET, "", "wait 10;sound;", null);
        due("he is read by another", x.twice(0, 0, 0, 0, false), 8);
        due("the least number", x.twice(0, 0, 0, 0, true), 0);
    }

    private static void p31share() {
        FathomNight x = told("plain 0 0 0 36 4 60;plain 1 0 0 36 2 60;plain 0 0 0 36 2 60;door 0 1 2;", "",
                "wait 1;sound;go 1;sound;", null);
        due("house 0", x.share(0, 0, 0, 0, false), 1);
        due("house 0", x.share(0, 0, 0, 0, true), 2);
        due("house 2", x.share(0, 0, 0, 2, false), 0);
        due("house 2", x.share(0, 0, 0, 2, true), 1);
        due("house 4", x.share(0, 0, 0, 4, false), NONE);
        due("house -1", x.share(0, 0, 0, -1, false), NONE);
        due("street 1", x.share(1, 0, 0, 0, false), NONE);
        due("law 1", x.share(0, 1, 0, 0, false), NONE);
        due("round 1", x.share(0, 0, 1, 0, false), NONE);
        x = told("plain 0 0 0 36 4 60;", "mark 60;", "wait 1;sound;", null);
        due("nothing is due", x.share(0, 0, 0, 0, false), 0);
        due("by 1", x.share(0, 0, 0, 0, true), 1);
        x = told("plain 0 0 0 36 4 60;", "", "wait 1;sound;", null);
        due("all", x.share(0, 0, 0, 0, false), 1);
        due("by 1", x.share(0, 0, 0, 0, true), 1);
    }

    private static void p32trip() {
        FathomNight x = told("door 0 1 2;door 0 2 3;door 0 3 9;", null, null, null);
        due("from 0", x.trip(0, 0), 4 + 6 + 9);
        due("from 1", x.trip(0, 1), 2 + 6 + 9);
        due("from 3", x.trip(0, 3), 9 + 4 + 3);
        due("house 4", x.trip(0, 4), NONE);
        due("house -1", x.trip(0, -1), NONE);
        due("street 1", x.trip(1, 0), NONE);
        x = told("houses 1;", null, null, null);
        due("one house", x.trip(0, 0), 0);
        x = told("houses 2;", null, null, null);
        due("it can't be", x.trip(0, 0), NONE);
        x = told("houses 8;door 0 1 9;door 1 2 9;door 2 3 9;door 3 4 9;door 4 5 9;door 5 6 9;door 6 7 9;", null, null, null);
        due("from an end", x.trip(0, 7), 63);
        due("from the midst", x.trip(0, 3), 27 + 63);
    }

    private static void p33count() {
        FathomNight x = new FathomNight();
        for (int sort = 0; sort < 4; sort++) {
            due("none", x.count(sort), 0);
            x.text(sort, NONE);
            due("one", x.count(sort), 1);
            x.text(sort, 0);
            due("one in its place", x.count(sort), 1);
            x.text(sort, NONE);
            x.text(sort, NONE);
            due("two", x.count(sort), 2);
        }
        due("sort 4", x.count(4), -2);
        due("sort -1", x.count(-1), -2);
    }

    private static void p34image() {
        FathomNight x = told("houses 2;", "mark 3;", "sound;", "quiet 1;");
        T.due("image(3)", x.image(3), false);
        T.due("image(-1)", x.image(-1), false);
        T.due("image(2)", x.image(2), true);
        T.due("again(1)", x.again(1), false);
        Telling.tell(x, 0, 0, "houses 3;");
        T.due("image(0)", x.image(0), true);
        T.due("image(2) anew", x.image(2), true);
        Telling.tell(x, 0, 0, "houses 5;");
        T.due("again(2)", x.again(2), true);
        due("houses", x.street(0, 0), 3);
    }

    private static void p35again() {
        FathomNight x = told("houses 2;cat 1;door 0 1 3;plain 0 1 2 9 3 4;rich 0 1 2 9 3 4;wine 0 6;poppy 0 7;stands 0 1;",
                "mark 3;rate 2 5;shared;free 1;", "begin 1 2;sound;wait 2;go 0;", "quiet 1;caught 0;");
        Telling.tell(x, 1, NONE, "cap 0;");
        Telling.put(x, "cat 1;", 0);
        T.due("image", x.image(1), true);
        x.text(0, 0);
        Telling.tell(x, 0, NONE, "houses 5;");
        Telling.tell(x, 1, 0, "");
        Telling.tell(x, 2, 0, "wait 3;");
        Telling.tell(x, 3, 0, "");
        T.due("other image", x.image(0), true);
        T.due("again", x.again(1), true);
        due("streets", x.count(0), 1);
        due("the fault", x.fault(0), 2);
        due("its place", x.fault(1), 4);
        due("houses", x.street(0, 0), 2);
        due("cats", x.street(0, 1), 2);
        due("door", x.street(0, 11), 3);
        int[] sleeper = {0, 0, 1, 2, 9, 3, 4, 7, 1, 11};
        for (int what = 0; what < 10; what++) {
            due("sleeper " + what, x.sleeper(0, 0, what), sleeper[what]);
        }
        due("wine", x.wine(0, 0, 1), 6);
        due("mark", x.law(0, 0), 3);
        due("rate", x.law(0, 12), 5);
        due("free", x.law(0, 3), 2);
        due("shared", x.law(0, 4), 1);
        due("begin", x.act(0, NONE, 1), 1);
        due("begin", x.act(0, NONE, 2), 2);
        due("acts", x.act(0, NONE, 0), 3);
        due("act", x.act(0, 1, 1), 2);
        due("row", x.told(0, 1), 10);
        due("the tape", x.text(0, NONE), 1);
        due("its street", x.street(1, 1), 2);
        T.due("the other image stays", x.again(0), true);
        due("houses", x.street(1, 0), 5);
        due("rows", x.told(0, NONE), 0);
        T.due("again(-1)", x.again(-1), false);
        T.due("again(3)", x.again(3), false);
        T.due("again(2)", x.again(2), false);
    }
}
