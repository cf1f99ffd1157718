/** Promise 4: text. */
public final class Promise04Test {
    private static final int NONE = FathomNight.NONE;
    /** One text of each sort that can be told from the empty one, and what asks for that. */
    private static final String[] TEXTS = {"houses 7;", "mark 7;", "begin 7 0;", "quiet 7;"};
    private static final int[] EMPTY = {4, 0, 0, -2};

    private Promise04Test() {
    }

    public static void main(String[] args) {
        Cases.run(Promise04Test.class, args);
    }

    /** 7 of a text as above, EMPTY of an empty one. */
    private static int seen(FathomNight x, int sort, int at) {
        switch (sort) {
            case 0:
                return x.street(at, 0);
            case 1:
                return x.law(at, 0);
            case 2:
                return x.act(at, NONE, 1);
            default:
                return x.told(at, 0);
        }
    }

    private static FathomNight full() {
        FathomNight x = new FathomNight();
        for (int sort = 0; sort < 4; sort++) {
            x.text(sort, NONE);
            x.text(sort, NONE);
        }
        return x;
    }

    /** "a further one (at NONE) .. its number": from 0 on. */
    static void p04AFurtherOne(Telling t) {
        FathomNight x = new FathomNight();
        for (int sort = 0; sort < 4; sort++) {
            t.due("the first", Telling.tell(x, sort, NONE, TEXTS[sort]), 0);
            t.due("the second", Telling.tell(x, sort, NONE, ""), 1);
            t.due("of the first", seen(x, sort, 0), 7);
            t.due("of the second", seen(x, sort, 1), EMPTY[sort]);
        }
    }

    /** "in the place of one: its number": the other one stays, and there are no more than before. */
    static void p04InThePlaceOfOne(Telling t) {
        for (int at = 0; at < 2; at++) {
            FathomNight x = full();
            for (int sort = 0; sort < 4; sort++) {
                t.due("in its place", Telling.tell(x, sort, at, TEXTS[sort]), at);
                t.due("of it", seen(x, sort, at), 7);
                t.due("of the other one", seen(x, sort, 1 - at), EMPTY[sort]);
                t.due("as many", x.count(sort), 2);
            }
        }
    }

    /** "in the place of one": of the one before nothing is left. */
    static void p04NothingOfTheOneBefore(Telling t) {
        FathomNight x = t.told("houses 2;door 0 1 3;cat 1;rich 0 0 0 9 1 1;plain 0 0 0 9 1 1;wine 0 3;poppy 0 3;stands 1 0;",
                "mark 3;cap 3;fine 3;rate 0 3;free 3;shared;", "begin 1 3;sound;", "caught 3;");
        for (int sort = 0; sort < 4; sort++) {
            t.due("an empty text", Telling.tell(x, sort, 0, ""), 0);
        }
        int[] street = {4, 0, 0, 0};
        int[] law = {0, 999, 0, 0, 0};
        for (int what = 0; what < 4; what++) {
            t.due("street " + what, x.street(0, what), street[what]);
        }
        t.due("door", x.street(0, 11), 0);
        t.due("wine", x.wine(0, 0, 0), NONE);
        for (int what = 0; what < 5; what++) {
            t.due("law " + what, x.law(0, what), law[what]);
        }
        t.due("rate", x.law(0, 10), 1);
        for (int what = 0; what < 3; what++) {
            t.due("round " + what, x.act(0, NONE, what), 0);
        }
        t.due("rows", x.told(0, NONE), 0);
        t.due("sleepers anew", Telling.tell(x, 0, 0, "rich 0 0 0 9 1 1;plain 0 0 0 9 1 1;"), 0);
        t.due("no poppy", x.sleeper(0, 0, 7), NONE);
        t.due("nobody stands in", x.sleeper(0, 1, 8), NONE);
    }

    /** "NONE: a FAULT.": nothing is told by such a text, neither further nor in the place of one. */
    static void p04AFault(Telling t) {
        FathomNight x = new FathomNight();
        for (int sort = 0; sort < 4; sort++) {
            t.due("further", Telling.tell(x, sort, NONE, TEXTS[sort] + "x"), NONE);
            t.due("none came", x.count(sort), 0);
            Telling.tell(x, sort, NONE, TEXTS[sort]);
            t.due("in its place", Telling.tell(x, sort, 0, "x"), NONE);
            t.due("as it was", seen(x, sort, 0), 7);
            t.due("further", Telling.tell(x, sort, NONE, ";"), NONE);
            t.due("none came", x.count(sort), 1);
        }
    }

    /** "-2: there is none such": none in whose place it would come. */
    static void p04NoneSuch(Telling t) {
        FathomNight x = new FathomNight();
        for (int sort = 0; sort < 4; sort++) {
            for (int many = 0; many < 3; many++) {
                t.due("one more than there are", Telling.tell(x, sort, many, TEXTS[sort]), -2);
                t.due("below NONE", Telling.tell(x, sort, -2, TEXTS[sort]), -2);
                for (int at : Telling.FAR_OFF) {
                    t.due("far off", Telling.tell(x, sort, at, TEXTS[sort]), -2);
                }
                t.due("none came", x.count(sort), many);
                x.text(sort, NONE);
            }
            t.due("the first is as it was", seen(x, sort, 0), EMPTY[sort]);
            t.due("the second is as it was", seen(x, sort, 1), EMPTY[sort]);
        }
    }

    /** "-2: .. there are as many as may be": two of each sort. */
    static void p04AsManyAsMayBe(Telling t) {
        FathomNight x = full();
        for (int sort = 0; sort < 4; sort++) {
            t.due("a third one", Telling.tell(x, sort, NONE, TEXTS[sort]), -2);
            t.due("two", x.count(sort), 2);
            t.due("the first is as it was", seen(x, sort, 0), EMPTY[sort]);
            t.due("the second is as it was", seen(x, sort, 1), EMPTY[sort]);
            t.due("in the place of one it may be", Telling.tell(x, sort, 1, TEXTS[sort]), 1);
        }
    }

    /** "-2: .. or no such sort" */
    static void p04NoSuchSort(Telling t) {
        FathomNight x = new FathomNight();
        for (int at = -1; at < 2; at++) {
            t.due("sort -1", x.text(-1, at), -2);
            t.due("sort 4", x.text(4, at), -2);
            for (int sort : Telling.FAR_OFF) {
                t.due("far off", x.text(sort, at), -2);
            }
        }
        for (int sort = 0; sort < 4; sort++) {
            t.due("none came", x.count(sort), 0);
        }
    }

    /** "no text is read then, FAULT 0": whatever is on the tape, and whatever the FAULT was. */
    static void p04NoTextIsReadThen(Telling t) {
        int[][] refused = {{0, 2}, {0, NONE}, {0, -2}, {4, NONE}, {-1, 0}};
        for (int[] call : refused) {
            FathomNight x = full();
            t.due("a FAULT", Telling.tell(x, 0, 0, "houses 9;"), NONE);
            t.due("FAULT 2", x.fault(0), 2);
            t.due("refused", Telling.tell(x, call[0], call[1], "no text goes on so"), -2);
            t.due("FAULT 0", x.fault(0), 0);
            t.due("its place", x.fault(1), NONE);
        }
    }

    /** "The tape is taken (and is empty then)": by a text that is told. */
    static void p04TheTapeIsEmptyThen(Telling t) {
        FathomNight x = new FathomNight();
        for (int sort = 0; sort < 4; sort++) {
            t.due("text", Telling.tell(x, sort, NONE, TEXTS[sort]), 0);
            t.due("empty", x.end(1), NONE);
            t.due("taken once", x.text(sort, NONE), 1);
            t.due("the second is an empty one", seen(x, sort, 1), EMPTY[sort]);
            t.due("feed", x.feed(0, 0, 0, 0, 0), 20);
            x.end(0);
        }
    }

    /** "The tape is taken (and is empty then)": by a text with a FAULT. */
    static void p04TheTapeIsEmptyBehindAFault(Telling t) {
        String[] texts = {"x", "houses 9;", "wine 0 0;".repeat(9), "cat 7;", "plain 0 0 0 9 1 1;plain 0 0 0 9 1 1;stands 0 1;"};
        for (String text : texts) {
            FathomNight x = new FathomNight();
            t.due("text", Telling.tell(x, 0, NONE, text), NONE);
            t.due("empty", x.end(1), NONE);
            t.due("feed", x.feed(0, 0, 0, 0, 0), 20);
        }
    }

    /** "The tape is taken (and is empty then)": also where text() answers -2, by each reason for it. */
    static void p04TheTapeIsEmptyBehindARefusal(Telling t) {
        int[][] refused = {{0, 2}, {0, NONE}, {0, -2}, {4, NONE}, {-1, 0}, {3, NONE}};
        for (int[] call : refused) {
            FathomNight x = full();
            t.due("refused", Telling.tell(x, call[0], call[1], "houses 2;"), -2);
            t.due("empty", x.end(1), NONE);
            t.due("feed", x.feed(0, 0, 0, 0, 0), 20);
        }
    }

    /** An empty tape is a text of each sort: all is as it is at first. */
    static void p04AnEmptyTape(Telling t) {
        FathomNight x = new FathomNight();
        for (int sort = 0; sort < 4; sort++) {
            t.due("text", x.text(sort, NONE), 0);
            t.due("FAULT", x.fault(0), 0);
            t.due("as at first", seen(x, sort, 0), EMPTY[sort]);
            t.due("so are blanks", Telling.tell(x, sort, NONE, "\n \n"), 1);
        }
    }

    /** "THE TAPE has at most 600 bytes": all of a full one are read. */
    static void p04AFullTape(Telling t) {
        String[] others = {"cat 0;", "cap 9;", "sound;", "    \n "};
        for (int sort = 0; sort < 4; sort++) {
            FathomNight x = new FathomNight();
            t.due("from the first", Telling.tell(x, sort, NONE, TEXTS[sort] + " ".repeat(600 - TEXTS[sort].length())), 0);
            t.due("it is read", seen(x, sort, 0), 7);
            t.due("to the last", Telling.tell(x, sort, NONE, " ".repeat(600 - TEXTS[sort].length()) + TEXTS[sort]), 1);
            t.due("it is read", seen(x, sort, 1), 7);
            t.due("lines", Telling.tell(x, sort, 0, sort == 2 ? others[sort].repeat(40) : others[sort].repeat(100)), 0);
            t.due("a FAULT at the last byte", Telling.tell(x, sort, 0, " ".repeat(599) + "x"), NONE);
            t.due("its place", x.fault(1), 599);
            // house is no word, the others are.
            t.due("a FAULT at the end", Telling.tell(x, sort, 0, " ".repeat(595) + TEXTS[sort].substring(0, 5)), NONE);
            t.due("its place", x.fault(1), sort == 0 ? 595 : 600);
        }
    }

    /** "houses": a text's words are read alone in a text of its own sort. */
    static void p04EachSortHasItsOwnWords(Telling t) {
        for (int sort = 0; sort < 4; sort++) {
            for (int other = 0; other < 4; other++) {
                t.faulty(other, TEXTS[sort], sort == other ? 0 : 1, sort == other ? NONE : 0);
            }
        }
    }

    /** "TOKENS, as long as they go, blanks (10, 32) between": blanks may be many, or none where tokens end all the same. */
    static void p04BlanksBetween(Telling t) {
        t.right(0, "\n houses\n\n3 \n;\n  door  0\n1\n9;cat2;");
        t.right(0, "houses3;door0 1 9;cat 2 ;plain0 0 0 9 1 1;");
        t.right(1, "shared;shared ;\nshared\n;");
        t.right(2, "begin0 0;go1;wait9;sound;");
        t.right(3, "caught1;quiet2;");
        // As long as they go: two words, or two numbers, need a blank.
        t.faulty(0, "door 01 9;", 1, 9);
        t.faulty(2, "soundsound;", 1, 0);
        t.faulty(2, "sound sound;", 1, 6);
    }

    /** "blanks (10, 32)": no other byte is a blank, nor a token. */
    static void p04OtherBytesAreNoBlanks(Telling t) {
        for (int sign = 0; sign < 256; sign++) {
            char c = (char) sign;
            if (sign == 10 || sign == 32) {
                t.right(1, c + "fine" + c + "3" + c + ";" + c);
            } else if (sign >= '0' && sign <= '9') {
                t.right(1, "fine" + c + "3;");
            } else {
                boolean letter = sign >= 'a' && sign <= 'z';
                t.faulty(1, "fine" + c + "3;", 1, letter ? 0 : 4);
                t.faulty(1, "shared;" + c, 1, 7);
            }
        }
    }
}
