import java.util.ArrayList;
import java.util.List;
import java.util.Random;

/** Promises 2 to 33: streets, laws, rounds and catches made at random, every answer held against Plainly's. */
public final class ByPlainWaysTest {
    private static final Telling T = new Telling();

    private static String at = "";
    private static Random dice;

    public static void main(String[] args) {
        int from = args.length > 0 ? Integer.parseInt(args[0]) : 0;
        int worlds = args.length > 1 ? Integer.parseInt(args[1]) : 300;
        for (int i = from; i < from + worlds; i++) {
            roll(i * 7919L + 17);
            world(i);
            if (i % 5 == 0) {
                crowd(i);
            }
            if (T.wrong() > 20) {
                break;
            }
        }
        T.close("ByPlainWaysTest");
    }

    /** Begins a new row of texts at random; other tests take their texts here, too. */
    static void roll(long seed) {
        dice = new Random(seed);
    }

    private static int below(int n) {
        return dice.nextInt(n);
    }

    private static int unit() {
        return below(36);
    }

    static String streetText(int houses, int most) {
        StringBuilder t = new StringBuilder();
        t.append("houses ").append(houses).append(';');
        int doorChance = 1 + below(4);
        int longest = below(2) == 0 ? 3 : 9;
        for (int h = 0; h < houses; h++) {
            for (int k = h + 1; k < houses; k++) {
                if (below(4) < doorChance && t.length() < 200) {
                    t.append("door ").append(h).append(' ').append(k).append(' ').append(1 + below(longest)).append(';');
                }
            }
            if (below(3) == 0) {
                t.append("cat ").append(h).append(';');
            }
        }
        int n = below(most + 1);
        int crowd = 1 + below(houses);
        int[] house = new int[n];
        int[] manner = new int[n];
        for (int k = 0; k < n; k++) {
            house[k] = below(crowd);
            manner[k] = below(5) == 0 ? 1 + below(2) : below(2) * 3;
            int lies = below(3) == 0 ? unit() : below(8);
            int rises = lies + 1 + below(36 - lies);
            if (below(2) == 0) {
                rises = Math.max(rises, 20 + below(17));
                rises = Math.max(rises, lies + 1);
            }
            t.append(List.of("plain", "mother", "child", "rich").get(manner[k])).append(' ').append(house[k]).append(' ')
                    .append(below(1 + below(4))).append(' ').append(lies).append(' ').append(rises).append(' ')
                    .append(1 + below(9)).append(' ').append(below(61)).append(';');
        }
        for (int i = 0; i < n; i++) {
            int k = below(n);
            if (below(2) == 0 && i < 8) {
                t.append("wine ").append(k).append(' ').append(unit()).append(';');
            }
            if (below(3) == 0) {
                t.append("poppy ").append(k).append(' ').append(unit()).append(';');
            }
            for (int j = 0; j < n; j++) {
                if (j != k && manner[k] == 3 && house[j] == house[k] && below(4) == 0) {
                    t.append("stands ").append(j).append(' ').append(k).append(';');
                }
            }
        }
        return t.length() <= 600 ? t.toString() : streetText(houses, most);
    }

    static String lawText() {
        StringBuilder t = new StringBuilder();
        if (below(4) > 0) {
            t.append("mark ").append(below(below(2) == 0 ? 10 : 61)).append(';');
        }
        for (int w = 0; w < 9; w++) {
            if (below(2) == 0) {
                t.append("rate ").append(w).append(' ').append(below(10)).append(';');
            }
        }
        if (below(3) == 0) {
            t.append("cap ").append(1 + below(below(2) == 0 ? 999 : 100)).append(';');
        }
        if (below(2) == 0) {
            t.append("fine ").append(below(100)).append(';');
        }
        if (below(2) == 0) {
            t.append("shared;");
        }
        for (int i = below(3); i > 0 && below(2) == 0; i--) {
            t.append("free ").append(below(8)).append(';');
        }
        return t.toString();
    }

    static String roundText(Plainly.Street s) {
        StringBuilder t = new StringBuilder();
        int here = 0;
        if (below(2) == 0) {
            here = below(10) == 0 ? below(8) : below(s.houses);
            t.append("begin ").append(here).append(' ').append(below(3) == 0 ? unit() : below(6)).append(';');
        }
        int acts = below(41);
        for (int i = 0; i < acts; i++) {
            int die = below(10);
            if (die < 4) {
                t.append("sound;");
            } else if (die < 6) {
                t.append("wait ").append(1 + below(below(20) == 0 ? 35 : 3)).append(';');
            } else {
                List<Integer> to = new ArrayList<>();
                for (int h = 0; h < s.houses; h++) {
                    if (here < s.houses && s.door(here, h) > 0) {
                        to.add(h);
                    }
                }
                if (!to.isEmpty() && below(40) > 0) {
                    here = to.get(below(to.size()));
                    t.append("go ").append(here).append(';');
                } else if (below(10) == 0) {
                    t.append("go ").append(below(8)).append(';');
                } else {
                    t.append("sound;");
                }
            }
        }
        return t.toString();
    }

    static String catchText(int sleepers) {
        StringBuilder t = new StringBuilder();
        int rows = below(5) == 0 ? below(9) : below(4);
        for (int i = 0; i < rows; i++) {
            int who = below(12) == 0 ? below(9) : below(Math.max(1, sleepers));
            t.append(below(2) == 0 ? "caught " : "quiet ").append(who).append(';');
        }
        return t.toString();
    }

    private static Plainly.Text told(FathomNight x, int sort, String text) {
        T.due(at + "text " + text, Telling.tell(x, sort, -1, text), 0);
        Plainly.Text read = Plainly.read(sort, text);
        T.due(at + "fault of " + text, read.fault, 0);
        return read;
    }

    private static void world(int i) {
        FathomNight x = new FathomNight();
        boolean small = below(2) == 0;
        int houses = small ? 1 + below(3) : below(8) == 0 ? 7 + below(2) : 1 + below(6);
        String street = streetText(houses, small ? 4 : 9);
        at = "world " + i + ": ";
        Plainly.Street s = told(x, 0, street).street;
        Plainly.Law law = told(x, 1, lawText()).law;
        Plainly.Round r = told(x, 2, roundText(s)).round;
        Plainly.Catch c = told(x, 3, catchText(s.sleepers.size())).caught;
        toldThings(x, s, law, r, c);
        rounds(x, s, law, r);
        plans(x, s, law, r);
        waysOf(x, s, law, c);
        nights(x, s, law, r);
    }

    /** Some who share beds and stand in for one another, so that each one's LIES tells on the others. */
    private static void crowd(int i) {
        at = "crowd " + i + ": ";
        String[] manners = {"plain", "mother", "child", "rich", "rich", "plain"};
        StringBuilder t = new StringBuilder("houses 2;cat 1;door 0 1 ").append(1 + below(3)).append(';');
        t.append(below(2) == 0 ? "cat 0;" : "");
        int n = 3 + below(2);
        int[] manner = new int[n];
        for (int k = 0; k < n; k++) {
            manner[k] = below(6);
            t.append(manners[manner[k]]).append(" 0 ").append(below(2)).append(" 0 28 ").append(1 + below(9)).append(' ')
                    .append(5 + below(56)).append(';');
        }
        for (int j = 0; j < n; j++) {
            int k = below(n);
            t.append(below(2) == 0 ? "wine " + k + " " + unit() + ";" : "");
            t.append(below(2) == 0 ? "poppy " + k + " " + unit() + ";" : "");
            t.append(j != k && manners[manner[k]].equals("rich") ? "stands " + j + " " + k + ";" : "");
        }
        StringBuilder r = new StringBuilder("begin ").append(below(2)).append(' ').append(below(5)).append(';');
        for (int j = 3 + below(9); j > 0; j--) {
            r.append(below(3) == 0 ? "sound;go 1;go 0;" : "sound;wait " + (1 + below(5)) + ";");
        }
        FathomNight x = new FathomNight();
        Plainly.Street s = told(x, 0, t.toString()).street;
        Plainly.Law law = told(x, 1, lawText() + (below(3) == 0 ? "" : "shared;")).law;
        Plainly.Round round = told(x, 2, r.toString()).round;
        seven(x, s, law, round);
    }

    private static void seven(FathomNight x, Plainly.Street s, Plainly.Law law, Plainly.Round r) {
        int[] seven = Plainly.seven(s, law, r);
        T.due(at + "seven", x.seven(0, 0, 0, 0), seven[0]);
        for (int k = 0; k < s.sleepers.size(); k++) {
            T.due(at + "seven " + k, x.seven(0, 0, 0, 10 + k), seven[1 + k]);
        }
    }

    private static void toldThings(FathomNight x, Plainly.Street s, Plainly.Law law, Plainly.Round r, Plainly.Catch c) {
        T.due(at + "street 0", x.street(0, 0), s.houses);
        T.due(at + "street 1", x.street(0, 1), s.cats.stream().mapToInt(h -> 1 << h).sum());
        T.due(at + "street 2", x.street(0, 2), s.sleepers.size());
        T.due(at + "street 3", x.street(0, 3), s.wine.size());
        for (int h = 0; h < 8; h++) {
            for (int k = 0; k < 8; k++) {
                int due = h < s.houses && k < s.houses ? s.door(h, k) : -1;
                T.due(at + "door " + h + " " + k, x.street(0, 10 + 8 * h + k), due);
            }
        }
        for (int k = 0; k < s.sleepers.size(); k++) {
            Plainly.Sleeper who = s.sleepers.get(k);
            int[] due = {who.manner, who.house, who.bed, who.lies, who.rises, who.sink, who.deep,
                s.poppy.getOrDefault(k, -1), s.stands.getOrDefault(k, -1), s.up(k), -2};
            for (int what = 0; what < due.length; what++) {
                T.due(at + "sleeper " + k + " " + what, x.sleeper(0, k, what), due[what]);
            }
            for (int u = -1; u <= 36; u++) {
                int depth = u < 0 || u > 35 ? -2 : s.asleep(k, u) ? s.depth(k, u, null) : -1;
                T.due(at + "depth " + k + " " + u, x.depth(0, k, u), depth);
            }
        }
        for (int k = 0; k < s.wine.size(); k++) {
            T.due(at + "wine " + k, x.wine(0, k, 0), s.wine.get(k)[0]);
            T.due(at + "wine " + k, x.wine(0, k, 1), s.wine.get(k)[1]);
        }
        int[] laws = {law.mark, law.cap, law.fine, law.free.stream().mapToInt(h -> 1 << h).sum(), law.shared ? 1 : 0};
        for (int what = 0; what < 5; what++) {
            T.due(at + "law " + what, x.law(0, what), laws[what]);
        }
        for (int w = 0; w < 9; w++) {
            T.due(at + "rate " + w, x.law(0, 10 + w), law.rate[w]);
        }
        T.due(at + "acts", x.act(0, -1, 0), r.acts.size());
        T.due(at + "begin", x.act(0, -1, 1), r.house);
        T.due(at + "begin", x.act(0, -1, 2), r.unit);
        for (int k = 0; k < r.acts.size(); k++) {
            T.due(at + "act " + k, x.act(0, k, 0), r.acts.get(k)[0]);
            T.due(at + "act " + k, x.act(0, k, 1), r.acts.get(k)[1]);
        }
        T.due(at + "rows", x.told(0, -1), c.rows.size());
        for (int k = 0; k < c.rows.size(); k++) {
            T.due(at + "row " + k, x.told(0, k), 10 * c.rows.get(k)[0] + c.rows.get(k)[1]);
        }
    }

    private static void rounds(FathomNight x, Plainly.Street s, Plainly.Law law, Plainly.Round r) {
        int stop = Plainly.stop(s, r);
        T.due(at + "stop", x.stop(0, 0), stop);
        for (int n = -1; n <= stop + 1; n++) {
            for (int what = -1; what < 40; what++) {
                if (what < 5 || what > 9) {
                    T.due(at + "state " + n + " " + what, x.state(0, 0, 0, n, what), Plainly.state(s, law, r, n, what));
                }
            }
        }
        for (int w = 0; w < 9; w++) {
            T.due(at + "hours " + w, x.hours(0, 0, w), Plainly.hours(s, r, w));
        }
        for (int h = 0; h < s.houses; h++) {
            int[] share = Plainly.share(s, law, r, h);
            T.due(at + "share " + h, x.share(0, 0, 0, h, false), share[0]);
            T.due(at + "share under " + h, x.share(0, 0, 0, h, true), share[1]);
        }
        for (int i = 0; i < 6; i++) {
            int coins = below(i < 3 ? 200 : 10000);
            int paid = Plainly.paid(s, law, r, coins);
            T.due(at + "paid " + coins, x.paid(0, 0, 0, coins, true), paid);
            T.due(at + "paid " + coins, x.paid(0, 0, 0, coins, false), Integer.bitCount(paid));
        }
    }

    private static void plans(FathomNight x, Plainly.Street s, Plainly.Law law, Plainly.Round r) {
        int n = s.sleepers.size();
        if (n <= 3 || n <= 5 && below(30) == 0) {
            seven(x, s, law, r);
        } else if (n > 5) {
            T.due(at + "seven", x.seven(0, 0, 0, 0), -1);
        }
        for (int k = 0; k < n; k++) {
            int[] refuge = Plainly.refuge(s, law, r, k);
            T.due(at + "refuge " + k, x.refuge(0, 0, 0, k, false), refuge[0]);
            T.due(at + "refuge unit " + k, x.refuge(0, 0, 0, k, true), refuge[1]);
        }
        if (n > 0) {
            int k = below(n);
            int[] twice = Plainly.twice(s, law, r, k);
            T.due(at + "twice " + k, x.twice(0, 0, 0, k, false), twice[0]);
            T.due(at + "twice units " + k, x.twice(0, 0, 0, k, true), twice[1]);
        }
        boolean few = s.sleepers.stream().filter(w -> w.manner == 3).count() <= 4;
        int[] standins = few ? Plainly.standins(s, law, r) : new int[] {-1, -1};
        T.due(at + "standins", x.standins(0, 0, 0, false), standins[0]);
        T.due(at + "standins due", x.standins(0, 0, 0, true), standins[1]);
    }

    private static void waysOf(FathomNight x, Plainly.Street s, Plainly.Law law, Plainly.Catch c) {
        List<Integer> sold = Plainly.sold(s, law);
        T.due(at + "sold", x.sold(0, 0, 0), sold.get(0));
        T.due(at + "sold houses", x.sold(0, 0, 1), sold.size() - 1);
        for (int i = 0; i <= sold.size(); i++) {
            T.due(at + "sold " + i, x.sold(0, 0, 10 + i), i + 1 < sold.size() ? sold.get(1 + i) : -1);
        }
        for (int h = 0; h < s.houses; h++) {
            T.due(at + "trip " + h, x.trip(0, h), Plainly.trip(s, h));
            for (int k = 0; k < s.houses; k++) {
                T.due(at + "quick " + h + " " + k, x.quick(0, h, k), Plainly.quick(s, h, k));
            }
        }
        T.due(at + "cats", x.cats(0, true), Plainly.cats(s));
        T.due(at + "cats", x.cats(0, false), Integer.bitCount(Plainly.cats(s)));
        int most = s.houses <= 3 ? 7 : s.houses <= 6 ? 4 : 3;
        for (int n = 0; n <= most; n++) {
            long[] went = Plainly.went(s, law, c, n);
            T.due(at + "went " + n, x.went(0, 0, 0, n, -1), went == null ? -1 : went[8]);
            T.due(at + "soonest " + n, x.soonest(0, 0, 0, n), went == null ? -1 : went[9]);
            for (int h = 0; h < s.houses; h++) {
                T.due(at + "went " + n + " to " + h, x.went(0, 0, 0, n, h), went == null ? -1 : went[h]);
            }
        }
    }

    private static void nights(FathomNight x, Plainly.Street s, Plainly.Law law, Plainly.Round r) {
        int n = s.sleepers.size();
        for (int k = 0; k < n; k++) {
            int weeks = below(100);
            T.due(at + "arrears " + k + " " + weeks, x.arrears(0, 0, 0, k, weeks), Plainly.arrears(s, law, r, k, weeks));
            int[] odds = Plainly.odds(s, law, k);
            T.due(at + "odds " + k, x.odds(0, 0, k, false), odds[0]);
            T.due(at + "odds under " + k, x.odds(0, 0, k, true), odds[1]);
        }
        int seed = dice.nextInt();
        int nights = below(31);
        int[] drawn = Plainly.drawn(s, law, r, seed, nights);
        for (int k = 0; k < n; k++) {
            T.due(at + "drawn " + k, x.drawn(0, 0, 0, seed, nights, 10 + k), drawn[k]);
        }
        T.due(at + "drawn", x.drawn(0, 0, 0, seed, nights, 0), drawn[n]);
        T.due(at + "drawn nights", x.drawn(0, 0, 0, seed, nights, 1), drawn[n + 1]);
        for (int u = 0; u < 36; u++) {
            T.due(at + "loud " + u, x.loud(0, u, false), Plainly.loud(s, u)[0]);
            T.due(at + "loud deep " + u, x.loud(0, u, true), Plainly.loud(s, u)[1]);
        }
        T.due(at + "calm", x.calm(0, 0), Plainly.calm(s, law));
    }
}
