import java.util.Random;

/** Lives of calls at random, by which the tape, the FAULT, the counts and the images are held against a plain model. */
public final class TapeLivesTest {
    private static final Telling T = new Telling();
    private static final int LIVES = 6000;
    /** Of the 512 calls of an object; a step takes at most 31, a look 14. */
    private static final int CALLS = 460;
    private static final String[] LINES = {"houses 3;", "mark 7;", "wait 4;", "caught 1;"};

    /** All that is told, as the model has it. */
    private static final class Model {
        String tape = "";
        int fault = 0;
        int place = -1;
        int[] counts = new int[4];
        int[][] lines = new int[4][2];

        Model copy() {
            Model m = new Model();
            m.tape = tape;
            m.fault = fault;
            m.place = place;
            m.counts = counts.clone();
            for (int sort = 0; sort < 4; sort++) {
                m.lines[sort] = lines[sort].clone();
            }
            return m;
        }

        int feed(String bytes) {
            if (tape.length() + 20 > 600) {
                return -1;
            }
            tape += bytes;
            return tape.length();
        }

        int end(int n) {
            if (n < 0 || n > tape.length()) {
                return -1;
            }
            tape = tape.substring(0, n);
            return n;
        }

        int text(int sort, int at) {
            String taken = tape;
            tape = "";
            fault = 0;
            place = -1;
            if (sort < 0 || sort > 3 || at < -1 || at >= counts[sort] || at == -1 && counts[sort] == 2) {
                return -2;
            }
            Plainly.Text text = Plainly.read(sort, taken);
            if (text.fault != 0) {
                fault = text.fault;
                place = text.place;
                return -1;
            }
            int number = at == -1 ? counts[sort]++ : at;
            lines[sort][number] = taken.split(";", -1).length - 1;
            return number;
        }
    }

    private final Random random;
    private final FathomNight x = new FathomNight();
    private final Model[] images = new Model[3];
    private Model m = new Model();
    private int calls = 0;

    private TapeLivesTest(long seed) {
        random = new Random(seed);
    }

    public static void main(String[] args) {
        for (int life = 0; life < LIVES; life++) {
            new TapeLivesTest(life).live();
        }
        T.close("TapeLivesTest");
    }

    private void live() {
        while (calls < CALLS) {
            calls++;
            switch (random.nextInt(9)) {
                case 0, 1, 2 -> feed();
                case 3 -> feedLine();
                case 4 -> end();
                case 5, 6 -> text();
                case 7 -> image();
                default -> again();
            }
            look();
        }
    }

    private void feed() {
        StringBuilder bytes = new StringBuilder();
        int[] n = new int[5];
        boolean blank = random.nextInt(3) > 0;
        for (int i = 0; i < 5; i++) {
            n[i] = blank ? 0x20202020 : random.nextInt();
            for (int shift = 24; shift >= 0; shift -= 8) {
                bytes.append((char) (n[i] >>> shift & 255));
            }
        }
        // Now and then the tape is fed full.
        int times = random.nextInt(20) == 0 ? 31 : 1;
        calls += times;
        for (int i = 0; i < times; i++) {
            T.due("feed", x.feed(n[0], n[1], n[2], n[3], n[4]), m.feed(bytes.toString()));
        }
    }

    private void feedLine() {
        String line = LINES[random.nextInt(4)];
        if (m.tape.length() + 20 > 600) {
            return;
        }
        int had = m.tape.length();
        calls++;
        Telling.put(x, line, had);
        m.tape += line;
    }

    private void end() {
        int n = random.nextInt(4) == 0 ? random.nextInt() : random.nextInt(m.tape.length() + 3) - 1;
        T.due("end " + n, x.end(n), m.end(n));
    }

    private void text() {
        int sort = random.nextInt(6) - 1;
        int at = random.nextInt(5) - 2;
        T.due("text " + sort + " " + at, x.text(sort, at), m.text(sort, at));
    }

    private void image() {
        int k = random.nextInt(5) - 1;
        T.due("image " + k, x.image(k), k >= 0 && k < 3);
        if (k >= 0 && k < 3) {
            images[k] = m.copy();
        }
    }

    private void again() {
        int k = random.nextInt(5) - 1;
        boolean has = k >= 0 && k < 3 && images[k] != null;
        T.due("again " + k, x.again(k), has);
        if (has) {
            m = images[k].copy();
        }
    }

    private void look() {
        calls += 14;
        // The longer one first: the other one would cut a tape that has too much.
        T.due("no longer", x.end(m.tape.length() + 1), -1);
        T.due("the tape's length", x.end(m.tape.length()), m.tape.length());
        T.due("fault", x.fault(0), m.fault);
        T.due("place", x.fault(1), m.place);
        for (int sort = -1; sort < 5; sort++) {
            T.due("count " + sort, x.count(sort), sort < 0 || sort > 3 ? -2 : m.counts[sort]);
        }
        for (int at = 0; at < 2; at++) {
            T.due("acts", x.act(at, -1, 0), at < m.counts[2] ? m.lines[2][at] : -2);
            T.due("rows", x.told(at, -1), at < m.counts[3] ? m.lines[3][at] : -2);
        }
    }
}
