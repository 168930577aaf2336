import java.util.Random;

/** Long runs of calls by chance (the same each time) on the class and on the model, call by call. */
public final class ModelTest {
    private static final int RUNS = 1000;
    /** What calls behind the 512th answer is free; one step of a run seldom makes more than 60 calls. */
    private static final int CALLS = 380;
    private static final Due due = new Due();
    private static final String[] WORDS = {"sense", "know", "twin", "price", "try", "when", "or", "and", "not", ";",
        "+", "-", "*", "/", "(", ")", "<", "=", ">", "0", "1", "2", "12345", "x", "?", " ", "\n", "\t", "Far", "bare"};

    private final Random chance;
    private final GoldPlate x = new GoldPlate();
    private final Model m = new Model();
    private final int run;
    private final int longest;
    private int calls = 0;

    private ModelTest(int run) {
        this.run = run;
        this.chance = new Random(run);
        // The model tries every reading: most messages stay short, so that it ends.
        this.longest = run % 10 == 0 ? 7 : 5;
    }

    public static void main(String[] args) {
        for (int run = 0; run < RUNS; run++) {
            ModelTest t = new ModelTest(run);
            t.setUp();
            while (t.calls < CALLS) {
                t.step();
            }
        }
        due.close();
    }

    private int below(int n) {
        return chance.nextInt(n);
    }

    /** Mostly 0 .. most, at times one beside it, seldom far away. */
    private int near(int least, int most) {
        int c = below(40);
        if (c == 0) {
            return least - 1;
        }
        if (c == 1) {
            return most + 1;
        }
        if (c == 2) {
            return chance.nextInt();
        }
        if (c == 3) {
            return least;
        }
        return c == 4 ? most : least + below(most - least + 1);
    }

    private void same(String call, int got, int want) {
        calls++;
        due.is("run " + run + ": " + call, got, want);
    }

    private static int as(boolean b) {
        return b ? 1 : 0;
    }

    private void setUp() {
        int marks = below(17);
        for (int i = 0; i < marks; i++) {
            mark();
            tells(i);
        }
        for (int k = 0; k < 5; k++) {
            mind(k, text(true));
        }
        for (int i = 0; i < 4; i++) {
            put();
        }
    }

    private void mark() {
        int kind = near(0, 6);
        int thing = below(3) == 0 ? near(0, 15) : below(5);
        int cost = near(1, below(2) == 0 ? 99 : 9);
        int depth = near(0, 999);
        int senses = below(2) == 0 ? 0 : near(0, 15) & near(0, 15);
        same("mark", x.mark(kind, thing, cost, depth, senses), m.mark(kind, thing, cost, depth, senses));
    }

    private void tells(int mark) {
        if (below(2) == 0 && mark > 0) {
            tell(mark, 0, near(0, (1 << Math.min(mark, 15)) - 1) & (1 << below(16) | 1 << below(16)));
        }
        if (below(3) == 0) {
            tell(mark, 1, 1 << below(8));
        }
        if (below(2) == 0) {
            tell(mark, 2, below(6));
        }
        if (below(2) == 0) {
            tell(mark, 3, below(6));
        }
    }

    private void tell(int mark, int what, int v) {
        same("tell " + mark + " " + what + " " + v, as(x.tell(mark, what, v)), m.tell(mark, what, v));
    }

    private void put() {
        int v = m.message.size() >= longest && below(30) != 0 ? -1 : near(0, 15);
        if (m.message.size() == longest && v != -1) {
            // A message of more than ten has no readings: it costs the model nothing.
            while (m.message.size() < 11 && m.stamps.size() >= 11) {
                int mark = below(16);
                same("put " + mark, x.put(mark), m.put(mark));
            }
            return;
        }
        same("put " + v, x.put(v), m.put(v));
    }

    private void mind(int k, String text) {
        byte[] bytes = Due.bytesOf(text.length() > 500 ? text.substring(0, 500) : text);
        same("end 0", as(x.end(0)), m.end(0));
        for (int i = 0; i < bytes.length; i += 20) {
            int n = i / 4;
            int[] v = new int[5];
            for (int j = 0; j < 5; j++) {
                v[j] = Due.number(bytes, n + j);
            }
            same("feed", x.feed(v[0], v[1], v[2], v[3], v[4]), m.feed(v[0], v[1], v[2], v[3], v[4]));
        }
        same("end", as(x.end(bytes.length)), m.end(bytes.length));
        same("mind of " + text, x.mind(k), m.mind(k));
        same("fault 0 of " + text, x.fault(0), m.fault(0));
        same("fault 1 of " + text, x.fault(1), m.fault(1));
    }

    private String text(boolean sound) {
        StringBuilder s = new StringBuilder();
        boolean twin = false;
        boolean tries = false;
        int lines = below(sound ? 9 : 18);
        for (int i = 0; i < lines; i++) {
            int c = below(10);
            if (c < 2) {
                s.append("sense ").append(below(sound || below(9) > 0 ? 4 : 6));
            } else if (c < 4) {
                s.append("know ").append(below(sound || below(9) > 0 ? 8 : 9));
            } else if (c == 4 && (!twin || !sound)) {
                twin = true;
                s.append("twin ").append(below(2));
            } else if (c == 5 && (!tries || !sound)) {
                tries = true;
                s.append("try ").append(sum());
            } else {
                s.append("price ").append(sum());
                if (below(2) == 0) {
                    s.append(" when ").append(either(sound ? 4 : 7));
                }
            }
            s.append(below(4) == 0 ? " ;\n" : ";");
        }
        return sound ? s.toString() : spoilt(s);
    }

    private String spoilt(StringBuilder s) {
        int times = below(3);
        for (int i = 0; i < times; i++) {
            int at = below(s.length() + 1);
            int c = below(4);
            if (c == 0) {
                s.insert(at, WORDS[below(WORDS.length)]);
            } else if (c == 1) {
                s.setLength(at);
            } else if (c == 2) {
                s.insert(at, (char) below(256));
            } else if (at < s.length()) {
                s.deleteCharAt(at);
            }
        }
        return s.toString();
    }

    private String sum() {
        StringBuilder s = new StringBuilder(product());
        for (int i = below(3); i > 0; i--) {
            s.append(below(2) == 0 ? "+" : " - ").append(product());
        }
        return s.toString();
    }

    private String product() {
        StringBuilder s = new StringBuilder(unit());
        for (int i = below(5) / 2; i > 0; i--) {
            s.append(below(3) == 0 ? "/" + (1 + below(12)) : "*" + unit());
        }
        return s.toString();
    }

    private String unit() {
        if (below(3) == 0) {
            return Integer.toString(below(below(4) == 0 ? 10000 : 12));
        }
        return Model.NAMES.get(below(Model.NAMES.size()));
    }

    private String either(int depth) {
        StringBuilder s = new StringBuilder(both(depth));
        for (int i = below(4) / 2; i > 0; i--) {
            s.append(" or ").append(both(depth));
        }
        return s.toString();
    }

    private String both(int depth) {
        StringBuilder s = new StringBuilder(claim(depth));
        for (int i = below(4) / 2; i > 0; i--) {
            s.append(" and ").append(claim(depth));
        }
        return s.toString();
    }

    private String claim(int depth) {
        int c = below(5);
        if (c == 0 && depth > 0) {
            return "not ".repeat(1 + below(3)) + claim(depth - 1);
        }
        if (c == 1 && depth > 0) {
            int n = 1 + below(3);
            return "(".repeat(n) + either(depth - 2) + ")".repeat(n);
        }
        if (below(2) == 0) {
            return (below(2) == 0 ? "bare" : "other") + "=" + below(2);
        }
        return sum() + "<=>".charAt(below(3)) + sum();
    }

    private void step() {
        switch (below(32)) {
            case 0 -> mark();
            case 1 -> tell(near(0, 15), near(0, 3), below(2) == 0 ? near(-1, 15) : near(0, 300));
            case 2 -> {
                int kind = near(0, 6);
                int v = below(2) == 0 ? near(0, 99) : below(4);
                same("hard", as(x.hard(kind, v)), m.hard(kind, v));
            }
            case 3 -> {
                int v = below(3) == 0 ? near(0, 999) : below(60);
                same("year", as(x.year(v)), m.year(v));
            }
            case 4 -> {
                int mark = near(0, 15);
                int what = near(0, 2);
                same("of", x.of(mark, what), m.of(mark, what));
            }
            case 5, 6, 7 -> put();
            case 8 -> {
                same("feed", x.feed(1, 2, 3, 4, 5), m.feed(1, 2, 3, 4, 5));
                int n = near(0, 40);
                same("end", as(x.end(n)), m.end(n));
            }
            case 9, 10 -> mind(near(0, 5), text(below(3) > 0));
            case 11 -> {
                int what = near(0, 1);
                same("fault", x.fault(what), m.fault(what));
            }
            case 12 -> {
                int k = near(0, 5);
                int price = below(3) == 0 ? near(0, 9999) : below(200);
                same("readings", x.readings(k, price), m.readings(k, price));
            }
            case 13, 14, 15 -> {
                int k = near(0, 5);
                int what = below(2) == 0 ? near(0, 2) : near(10, 18);
                same("cheapest " + k + " " + what, x.cheapest(k, what), m.cheapest(k, what));
            }
            case 16 -> {
                int k = near(0, 5);
                int mark = near(0, 15);
                same("alone", x.alone(k, mark), m.alone(k, mark));
            }
            default -> stepOn();
        }
    }

    private void stepOn() {
        switch (below(15)) {
            case 0, 1 -> {
                int v = chance.nextInt();
                int n = below(3) == 0 ? 0 : near(0, 32);
                same("bits", x.bits(v, n), m.bits(v, n));
                if (below(2) == 0) {
                    int w = v ^ chance.nextInt() & chance.nextInt();
                    same("grid", x.grid(w, n), m.grid(w, n));
                }
            }
            case 2 -> {
                int k = near(0, 5);
                int what = near(0, 6);
                same("widths", x.widths(k, what), m.widths(k, what));
            }
            case 3 -> laid();
            case 4 -> {
                int period = near(1, below(2) == 0 ? 999999 : 3000);
                int slower = near(0, 9999);
                int across = near(0, 39);
                int down = near(0, 39);
                same("beat", x.beat(period, slower, across, down), m.beat(period, slower, across, down));
            }
            case 5 -> found();
            case 6 -> {
                int beat = near(0, 13);
                int v = near(0, 55);
                same("far", as(x.far(beat, v)), m.far(beat, v));
            }
            case 7 -> {
                int what = near(0, 2);
                same("years", x.years(what), m.years(what));
                int doubt = near(0, 55);
                int which = near(0, 1);
                same("places", x.places(doubt, which), m.places(doubt, which));
            }
            case 8 -> {
                int k = near(0, 5);
                int set = near(0, 65535);
                same("told", x.told(k, set), m.told(k, set));
            }
            case 9 -> best();
            case 10 -> {
                int k = near(0, 5);
                same("never", x.never(k), m.never(k));
                int when = below(2) == 0 ? near(0, 999) : below(60);
                same("deeper", x.deeper(k, when), m.deeper(k, when));
            }
            case 11 -> trial();
            case 12 -> {
                int t = near(0, 39);
                same("agrees", x.agrees(t), m.agrees(t));
            }
            case 13 -> {
                int who = below(3) == 0 ? near(0, 63) : 0;
                same("ours", x.ours(who), m.ours(who));
            }
            default -> {
                int what = near(0, 5);
                same("look", x.look(what), m.look(what));
            }
        }
    }

    private void laid() {
        int k = near(0, 5);
        int width = near(1, 12);
        int what = near(0, 1);
        if (below(2) == 0 && calls + m.bits.size() < CALLS) {
            // A grid that is HALF, or nearly, by its first width.
            x.grid(0, 0);
            m.grid(0, 0);
            int w = Math.max(1, m.widths(0, 1));
            int h = m.bits.size() / w;
            boolean mirrored = below(2) == 0;
            for (int i = 0; i < m.bits.size(); i++) {
                int column = i / Math.max(1, h);
                int line = i % Math.max(1, h);
                int from = w * line + (mirrored ? w - 1 - column : column);
                int v = m.bits.get(Math.min(from, m.bits.size() - 1)) ^ (below(100) == 0 ? 1 : 0);
                same("grid", x.grid(v, 1), m.grid(v, 1));
            }
            width = w;
        }
        same("laid", x.laid(k, width, what), m.laid(k, width, what));
    }

    private void found() {
        int beat = near(0, 13);
        int from = near(0, 9999999);
        int to = near(0, 9999999);
        if (beat >= 0 && beat < m.pulses.size() && below(3) > 0) {
            int period = m.pulses.get(beat).period;
            from = Math.min(9999999, period + below(period));
            to = from + below(period);
        }
        if (below(6) == 0) {
            from = -1;
        }
        same("found " + beat + " " + from + " " + to, as(x.found(beat, from, to)), m.found(beat, from, to));
    }

    private void best() {
        // The model tries all sets for all minds: one in three is enough.
        if (below(3) == 0) {
            int budget = below(2) == 0 ? near(0, 9999) : below(60);
            int who = near(1, 63);
            int what = near(0, 3);
            same("best", x.best(budget, who, what), m.best(budget, who, what));
        }
    }

    private void trial() {
        int n = m.message.size();
        int takings = below(4) == 0 ? near(0, (1 << 2 * Math.min(10, n)) - 1) : 0;
        if (below(2) == 0 && n > 0 && n <= 10) {
            // What some mind takes, so that some agree.
            int k = below(6);
            takings = 0;
            for (int i = 0; i < n; i++) {
                takings |= x.cheapest(k, 10 + i) << 2 * i;
            }
        } else if (below(2) == 0) {
            takings = 0x55555 & (1 << 2 * Math.min(10, n)) - 1;
        }
        same("trial", x.trial(takings), m.trial(takings));
    }
}
