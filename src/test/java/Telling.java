/** Hands texts to a FathomNight, and counts what was not as due. */
final class Telling {
    /** Numbers that no sort, street, sleeper, HOUSE, UNIT or what has. */
    static final int[] FAR_OFF = {-3, 600, 9999999, Integer.MAX_VALUE, Integer.MIN_VALUE, Integer.MIN_VALUE + 9};

    private int checks = 0;
    private int wrong = 0;

    /** Puts a text of signs 0 to 255 on the tape, behind what it has. */
    static void put(FathomNight x, String text, int had) {
        StringBuilder padded = new StringBuilder(text);
        while (padded.length() % 20 != 0) {
            padded.append('\0');
        }
        for (int i = 0; i < padded.length(); i += 20) {
            x.feed(four(padded, i), four(padded, i + 4), four(padded, i + 8), four(padded, i + 12),
                    four(padded, i + 16));
        }
        x.end(had + text.length());
    }

    static int tell(FathomNight x, int sort, int at, String text) {
        put(x, text, 0);
        return x.text(sort, at);
    }

    private static int four(CharSequence text, int at) {
        return text.charAt(at) << 24 | text.charAt(at + 1) << 16 | text.charAt(at + 2) << 8 | text.charAt(at + 3);
    }

    /** An object that was told a street, a law, a round and a catch; null for none. */
    FathomNight told(String street, String law, String round, String caught) {
        FathomNight x = new FathomNight();
        String[] texts = {street, law, round, caught};
        for (int sort = 0; sort < 4; sort++) {
            if (texts[sort] != null) {
                due("text " + texts[sort], tell(x, sort, FathomNight.NONE, texts[sort]), 0);
            }
        }
        return x;
    }

    /** A text has a FAULT at a place, and nothing is told by it. */
    void faulty(int sort, String text, int fault, int place) {
        FathomNight x = new FathomNight();
        due("text '" + text + "'", tell(x, sort, FathomNight.NONE, text), fault == 0 ? 0 : FathomNight.NONE);
        due("fault(0) of '" + text + "'", x.fault(0), fault);
        due("fault(1) of '" + text + "'", x.fault(1), place);
        due("count behind '" + text + "'", x.count(sort), fault == 0 ? 1 : 0);
    }

    /** A text has no FAULT. */
    void right(int sort, String text) {
        faulty(sort, text, 0, FathomNight.NONE);
    }

    void due(String call, long got, long want) {
        checks++;
        if (got != want) {
            wrong++;
            if (wrong <= 50) {
                System.out.println(call + " answered " + got + ", due is " + want);
            }
        }
    }

    void due(String call, boolean got, boolean want) {
        due(call, got ? 1 : 0, want ? 1 : 0);
    }

    int wrong() {
        return wrong;
    }

    int checks() {
        return checks;
    }

    void close(String name) {
        System.out.println(name + ": " + checks + " answers, " + wrong + " not as due");
        if (wrong != 0 || checks == 0) {
            System.exit(1);
        }
    }
}
