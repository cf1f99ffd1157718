import java.util.Random;

/** Promises 2 to 5: texts of all sorts, right and spoilt, their FAULTS held against Plainly's. */
public final class TextFaultsTest {
    private static final Telling T = new Telling();
    private static final String[] WORDS = {"houses", "door", "cat", "plain", "mother", "child", "rich", "wine", "poppy",
        "stands", "mark", "cap", "fine", "free", "rate", "shared", "begin", "go", "sound", "wait", "caught", "quiet"};
    private static final int[] NUMBERS = {1, 3, 1, 6, 6, 6, 6, 2, 2, 2, 1, 1, 1, 1, 2, 0, 2, 1, 0, 1, 1, 1};
    private static final int[] FIRST = {0, 10, 16, 20, 22};
    private static Random dice;
    private static final int[] SEEN = new int[6];

    public static void main(String[] args) {
        int texts = args.length > 0 ? Integer.parseInt(args[0]) : 20000;
        dice = new Random(4711);
        FathomNight x = new FathomNight();
        for (int i = 0; i < texts && T.wrong() < 20; i++) {
            if (i % 100 == 0) {
                x = new FathomNight();
            }
            one(x, i % 4);
        }
        for (int fault = 0; fault <= 5; fault++) {
            T.due("FAULT " + fault + " came about often", SEEN[fault] > texts / 200, true);
        }
        T.close("TextFaultsTest");
    }

    private static int below(int n) {
        return dice.nextInt(n);
    }

    private static String blank() {
        return below(4) == 0 ? below(2) == 0 ? "\n" : "  " : below(3) == 0 ? " \n" : "";
    }

    /** Lines of a sort, of which a few have NUMBERS that can't be. */
    private static String lines(int sort) {
        StringBuilder t = new StringBuilder();
        int many = below(5) == 0 ? below(60) : below(8);
        int only = below(3) == 0 ? FIRST[sort] + below(FIRST[sort + 1] - FIRST[sort]) : -1;
        boolean wild = below(3) == 0;
        int low = wild ? 0 : 1;
        for (int i = 0; i < many; i++) {
            int line = only >= 0 ? only : FIRST[sort] + below(FIRST[sort + 1] - FIRST[sort]);
            t.append(blank()).append(WORDS[line]);
            for (int j = 0; j < NUMBERS[line]; j++) {
                t.append(j == 0 && below(5) == 0 ? "" : " ").append(blank()).append(number(line, j, wild, low));
            }
            t.append(blank()).append(';');
        }
        return t.toString();
    }

    /** Some who stand in for others, rightly or not. */
    private static String stoodFor() {
        StringBuilder t = new StringBuilder();
        int many = 2 + below(4);
        for (int k = 0; k < many; k++) {
            t.append(below(4) == 0 ? "child " : "rich ").append(below(5) / 4).append(" 0 3 9 1 5;");
        }
        for (int i = 1 + below(3); i > 0; i--) {
            int who = below(many);
            t.append("stands ").append(who).append(' ').append((who + 1 + below(many - 1)) % many + below(12) / 11)
                    .append(';');
        }
        return t.toString();
    }

    private static String number(int line, int j, boolean wild, int low) {
        int n = low + below(3);
        if (line >= 3 && line <= 6 && j == 3) {
            n = wild ? below(38) : 4 + below(33);
        } else if (line == 1 && j == 1 || line == 9 && j == 1) {
            n = wild ? below(9) : 3;
        } else if (wild && below(20) == 0) {
            n = below(1000);
        } else if (wild && below(4) == 0) {
            n = below(10);
        }
        return below(8) == 0 && n < 100 ? "0" + n : "" + n;
    }

    private static String spoil(String text) {
        StringBuilder t = new StringBuilder(text);
        for (int i = 1 + below(2); i > 0 && t.length() > 0; i--) {
            int at = below(t.length());
            int die = below(5);
            if (die == 0) {
                t.deleteCharAt(at);
            } else if (die == 1) {
                t.setCharAt(at, (char) below(256));
            } else if (die == 2) {
                t.insert(at, "az09; \n".charAt(below(7)));
            } else if (die == 3) {
                t.setLength(at);
            } else {
                t.insert(at, WORDS[below(WORDS.length)]);
            }
        }
        return t.toString();
    }

    private static void one(FathomNight x, int sort) {
        String text = sort == 0 && below(3) == 0 ? stoodFor() : lines(sort);
        if (below(3) == 0) {
            text = spoil(text);
        }
        if (text.length() > 600) {
            text = text.substring(0, 600);
        }
        int had = x.count(sort);
        int place = had == 0 ? -1 : had == 2 || below(2) == 0 ? below(had) : -1;
        int number = Telling.tell(x, sort, place, text);
        Plainly.Text due = Plainly.read(sort, text);
        SEEN[due.fault]++;
        String call = "text " + sort + " '" + text.replace("\n", "\\n") + "'";
        T.due(call, number, due.fault != 0 ? -1 : place == -1 ? had : place);
        T.due(call + " fault", x.fault(0), due.fault);
        T.due(call + " place", x.fault(1), due.place);
        T.due(call + " tape", x.end(1), -1);
        T.due(call + " count", x.count(sort), due.fault == 0 && place == -1 ? had + 1 : had);
    }
}
