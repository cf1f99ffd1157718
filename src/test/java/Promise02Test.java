/** Promise 2: feed. */
public final class Promise02Test {
    private static final int NONE = FathomNight.NONE;
    private static final int BLANKS = 0x20202020;

    private Promise02Test() {
    }

    public static void main(String[] args) {
        Cases.run(Promise02Test.class, args);
    }

    private static int feedBlanks(FathomNight x) {
        return x.feed(BLANKS, BLANKS, BLANKS, BLANKS, BLANKS);
    }

    /** "twenty bytes come behind it, of each number the highest first" */
    static void p02TheHighestByteFirst(Telling t) {
        FathomNight x = new FathomNight();
        // mark 60;fine 99;shar | ed;cap 123;free 7;  .
        t.due("feed", x.feed(0x6d61726b, 0x2036303b, 0x66696e65, 0x2039393b, 0x73686172), 20);
        t.due("feed", x.feed(0x65643b63, 0x61702031, 0x32333b66, 0x72656520, 0x373b200a), 40);
        t.due("text", x.text(1, NONE), 0);
        t.due("mark", x.law(0, 0), 60);
        t.due("cap", x.law(0, 1), 123);
        t.due("fine", x.law(0, 2), 99);
        t.due("free", x.law(0, 3), 128);
        t.due("shared", x.law(0, 4), 1);
    }

    /** "how many it has": from none on. */
    static void p02HowManyItHas(Telling t) {
        FathomNight x = new FathomNight();
        for (int i = 1; i <= 30; i++) {
            t.due("feed " + i, feedBlanks(x), 20 * i);
        }
    }

    /** "NONE .. if there would be more than 600": 600 may be. */
    static void p02SixHundredMayBe(Telling t) {
        FathomNight x = new FathomNight();
        Telling.put(x, " ".repeat(580), 0);
        t.due("580 and 20", feedBlanks(x), 600);
        t.due("600 are there", x.end(600), 600);
    }

    /** "NONE .. if there would be more than 600": 601 may not. */
    static void p02OneMoreMayNot(Telling t) {
        FathomNight x = new FathomNight();
        Telling.put(x, " ".repeat(581), 0);
        t.due("581 and 20", feedBlanks(x), NONE);
        t.due("581 are there", x.end(581), 581);
    }

    /** "NONE .. if there would be more than 600": of a full tape. */
    static void p02AFullTape(Telling t) {
        FathomNight x = new FathomNight();
        Telling.put(x, " ".repeat(600), 0);
        t.due("600 and 20", feedBlanks(x), NONE);
        t.due("once more", feedBlanks(x), NONE);
        t.due("599", x.end(599), 599);
        t.due("599 and 20", feedBlanks(x), NONE);
    }

    /** "and nothing comes": neither a byte more, nor another byte in the place of one. */
    static void p02NothingComesIfRefused(Telling t) {
        FathomNight x = new FathomNight();
        Telling.put(x, "mark 3;" + " ".repeat(567) + "cap 77;", 0);
        t.due("581 and 20", x.feed(0x6d61726b, 0x20393b20, BLANKS, BLANKS, BLANKS), NONE);
        t.due("no byte more", x.end(582), NONE);
        t.due("text", x.text(1, NONE), 0);
        t.due("mark", x.law(0, 0), 3);
        t.due("cap", x.law(0, 1), 77);
    }

    /** "twenty bytes come behind it": behind a tape that was cut. */
    static void p02BehindACutTape(Telling t) {
        FathomNight x = new FathomNight();
        Telling.put(x, "mark 12345678901234567890", 0);
        t.due("end", x.end(7), 7);
        // ;fine 7;
        t.due("feed", x.feed(0x3b66696e, 0x6520373b, BLANKS, BLANKS, BLANKS), 27);
        t.due("text", x.text(1, NONE), 0);
        t.due("mark", x.law(0, 0), 12);
        t.due("fine", x.law(0, 2), 7);
    }

    /** "twenty bytes come behind it": onto an empty tape behind each text(). */
    static void p02OntoATakenTape(Telling t) {
        FathomNight x = new FathomNight();
        Telling.put(x, " ".repeat(600), 0);
        t.due("text", x.text(1, NONE), 0);
        t.due("feed", feedBlanks(x), 20);
        t.due("a refused text", x.text(1, 1), -2);
        t.due("feed", feedBlanks(x), 20);
        t.due("end", x.end(0), 0);
        t.due("feed", x.feed(0, 0, 0, 0, 0), 20);
        t.due("a faulty text", x.text(1, 0), NONE);
        t.due("feed", feedBlanks(x), 20);
    }

    /** Bytes above 127, of numbers below 0 too, are bytes as others are. */
    static void p02HighBytes(Telling t) {
        FathomNight x = new FathomNight();
        int[] highs = {0x80, 0xa0, 0x8a, 0xbb, 0xe1, 0xff};
        for (int high : highs) {
            for (int at = 0; at < 4; at++) {
                int number = BLANKS & ~(0xff << 8 * (3 - at)) | high << 8 * (3 - at);
                t.due("feed", x.feed(BLANKS, BLANKS, number, BLANKS, BLANKS), 20);
                t.due("no text goes on so", x.text(1, NONE), NONE);
                t.due("FAULT", x.fault(0), 1);
                t.due("place", x.fault(1), 8 + at);
            }
        }
    }

    /** The FAULT is that of the latest text(): feed changes nothing of it. */
    static void p02TheFaultStays(Telling t) {
        FathomNight x = new FathomNight();
        Telling.tell(x, 1, NONE, "mark 3;cap 0;");
        feedBlanks(x);
        t.due("FAULT", x.fault(0), 2);
        t.due("place", x.fault(1), 11);
    }
}
