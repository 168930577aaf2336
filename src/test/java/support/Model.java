import java.util.ArrayList;
import java.util.Arrays;
import java.util.HashMap;
import java.util.List;
import java.util.Map;
import java.util.TreeMap;

/**
 * The document once more, as plainly as can be and without any care for speed: every reading, every set
 * and every year is tried. It holds nothing in common with the class but the document.
 */
final class Model {
    static final int NONE = -1;

    static final class Fault extends RuntimeException {
        private static final long serialVersionUID = 1L;
        final int what;
        final int place;

        Fault(int what, int place) {
            super("", null, false, false);
            this.what = what;
            this.place = place;
        }
    }

    interface Term {
        int value(Map<String, Integer> names);
    }

    interface Claim {
        boolean holds(Map<String, Integer> names);
    }

    static final class Line {
        String word;
        int number;
        Term term;
        Claim when;
    }

    static final class Stamp {
        int kind;
        int thing;
        int cost;
        int depth;
        int senses;
        int needs;
        int knows;
        int[] others = {NONE, NONE};
    }

    static final class Pulse {
        int period;
        int slower;
        int x;
        int y;
        int from = NONE;
        int to;
        int far;
    }

    static final class Try {
        List<Integer> row;
        int[] takings;
    }

    static final class Reading {
        int price;
        int[] takings;
    }

    final List<Stamp> stamps = new ArrayList<>();
    final int[] hard = new int[7];
    int year;
    List<Integer> message = new ArrayList<>();
    StringBuilder tape = new StringBuilder();
    final List<List<Line>> minds = new ArrayList<>();
    int fault;
    int faultPlace = NONE;
    final List<Integer> bits = new ArrayList<>();
    final List<Integer> grid = new ArrayList<>();
    final List<Pulse> pulses = new ArrayList<>();
    final List<Try> tries = new ArrayList<>();

    Model() {
        for (int k = 0; k < 6; k++) {
            minds.add(new ArrayList<>());
        }
    }

    // ---- texts

    static final class Token {
        final String text;
        final int place;

        Token(String text, int place) {
            this.text = text;
            this.place = place;
        }
    }

    static final List<String> STARTS = Arrays.asList("sense", "know", "twin", "price", "try");
    static final List<String> NAMES = Arrays.asList("kind", "cost", "left", "worn", "other", "place", "twice", "bare",
            "width", "height", "prime", "edges", "far");

    static final class Text {
        final List<Token> tokens = new ArrayList<>();
        int next = 0;

        Text(String s) {
            java.util.regex.Matcher m = java.util.regex.Pattern.compile("[a-zA-Z]+|[0-9]+|[^ \\n]", java.util.regex.Pattern.DOTALL)
                    .matcher(s);
            while (m.find()) {
                tokens.add(new Token(m.group(), m.start()));
            }
            tokens.add(new Token("", s.length()));
        }

        String word() {
            return tokens.get(next).text;
        }

        int place() {
            return tokens.get(next).place;
        }

        Fault wrong() {
            return new Fault(1, place());
        }

        void need(String s) {
            if (!word().equals(s)) {
                throw wrong();
            }
            next++;
        }

        int number(int least, int most) {
            if (!word().matches("[0-9]{1,4}")) {
                throw wrong();
            }
            int v = Integer.parseInt(word());
            if (v < least || v > most) {
                throw new Fault(2, place());
            }
            next++;
            return v;
        }

        List<Line> lines() {
            List<Line> lines = new ArrayList<>();
            while (!word().isEmpty()) {
                if (!STARTS.contains(word())) {
                    throw wrong();
                }
                boolean had = false;
                for (Line l : lines) {
                    had |= l.word.equals(word()) && (word().equals("twin") || word().equals("try"));
                }
                if (lines.size() == 16 || had) {
                    throw new Fault(3, place());
                }
                Line line = new Line();
                line.word = word();
                next++;
                if (line.word.equals("sense")) {
                    line.number = number(0, 3);
                } else if (line.word.equals("know")) {
                    line.number = number(0, 7);
                } else if (line.word.equals("twin")) {
                    line.number = number(0, 1);
                } else {
                    line.term = sum();
                    if (line.word.equals("price") && word().equals("when")) {
                        next++;
                        line.when = either(0);
                    }
                }
                need(";");
                lines.add(line);
            }
            return lines;
        }

        Claim either(int open) {
            Claim a = both(open);
            while (word().equals("or")) {
                next++;
                Claim left = a;
                Claim right = both(open);
                a = n -> left.holds(n) || right.holds(n);
            }
            return a;
        }

        Claim both(int open) {
            Claim a = claim(open);
            while (word().equals("and")) {
                next++;
                Claim left = a;
                Claim right = claim(open);
                a = n -> left.holds(n) && right.holds(n);
            }
            return a;
        }

        Claim claim(int open) {
            String first = word();
            if ((first.equals("(") || first.equals("not")) && open == 8) {
                throw new Fault(3, place());
            }
            if (first.equals("not")) {
                next++;
                Claim c = claim(open + 1);
                return n -> !c.holds(n);
            }
            if (first.equals("(")) {
                next++;
                Claim c = either(open + 1);
                need(")");
                return c;
            }
            Term left = sum();
            String sign = word();
            if (!sign.equals("<") && !sign.equals("=") && !sign.equals(">")) {
                throw wrong();
            }
            next++;
            Term right = sum();
            return n -> sign.equals("<") ? left.value(n) < right.value(n)
                    : sign.equals("=") ? left.value(n) == right.value(n) : left.value(n) > right.value(n);
        }

        Term sum() {
            Term t = product();
            while (word().equals("+") || word().equals("-")) {
                boolean plus = word().equals("+");
                next++;
                Term left = t;
                Term right = product();
                t = n -> plus ? left.value(n) + right.value(n) : left.value(n) - right.value(n);
            }
            return t;
        }

        Term product() {
            Term t = unit();
            while (word().equals("*") || word().equals("/")) {
                boolean times = word().equals("*");
                next++;
                Term left = t;
                if (times) {
                    Term right = unit();
                    t = n -> left.value(n) * right.value(n);
                } else {
                    int by = number(1, 9999);
                    t = n -> left.value(n) / by;
                }
            }
            return t;
        }

        Term unit() {
            String name = word();
            if (NAMES.contains(name)) {
                next++;
                return n -> n.getOrDefault(name, 0);
            }
            int v = number(0, 9999);
            return n -> v;
        }
    }

    int setOf(int k, String word) {
        int set = 0;
        for (Line l : minds.get(k)) {
            if (l.word.equals(word)) {
                set |= 1 << l.number;
            }
        }
        return set;
    }

    // ---- marks

    int mark(int kind, int thing, int cost, int depth, int senses) {
        if (kind < 0 || kind > 6 || thing < 0 || thing > 15 || cost < 1 || cost > 99 || depth < 0 || depth > 999
                || senses < 0 || senses > 15 || stamps.size() == 16) {
            return NONE;
        }
        Stamp s = new Stamp();
        s.kind = kind;
        s.thing = thing;
        s.cost = cost;
        s.depth = depth;
        s.senses = senses;
        stamps.add(s);
        return stamps.size() - 1;
    }

    boolean isStamp(int m) {
        return m >= 0 && m < stamps.size();
    }

    boolean isMind(int k) {
        return k >= 0 && k < 6;
    }

    int tell(int m, int what, int v) {
        if (!isStamp(m) || what < 0 || what > 3) {
            return 0;
        }
        Stamp s = stamps.get(m);
        if (what == 0) {
            if (v < 0 || v >= Math.pow(2, m)) {
                return 0;
            }
            s.needs = v;
        } else if (what == 1) {
            if (v < 0 || v > 255) {
                return 0;
            }
            s.knows = v;
        } else {
            int[] then = s.others.clone();
            then[what - 2] = v;
            if (v < -1 || v > 15 || v == s.thing || (then[0] == NONE && then[1] != NONE)) {
                return 0;
            }
            s.others = then;
        }
        return 1;
    }

    int hard(int kind, int v) {
        if (kind < 0 || kind > 6 || v < 0 || v > 99) {
            return 0;
        }
        hard[kind] = v;
        return 1;
    }

    int year(int v) {
        if (v < 0 || v > 999) {
            return 0;
        }
        year = v;
        return 1;
    }

    int left(int m) {
        return stamps.get(m).depth - year * hard[stamps.get(m).kind];
    }

    boolean worn(int m) {
        return left(m) > 0 && left(m) < Math.floorDiv(stamps.get(m).depth, 2);
    }

    int chain(int m) {
        int most = 0;
        for (int j = 0; j < m; j++) {
            if ((stamps.get(m).needs & 1 << j) != 0) {
                most = Math.max(most, chain(j));
            }
        }
        return most + 1;
    }

    int of(int m, int what) {
        if (!isStamp(m) || what < 0 || what > 2) {
            return -1000000;
        }
        if (what == 0) {
            return left(m);
        }
        return what == 2 ? chain(m) : left(m) <= 0 ? 2 : worn(m) ? 1 : 0;
    }

    int put(int m) {
        if (m == NONE) {
            message = new ArrayList<>();
            return 0;
        }
        if (!isStamp(m) || message.contains(m)) {
            return NONE;
        }
        message.add(m);
        return message.size();
    }

    int feed(int a, int b, int c, int d, int e) {
        if (tape.length() + 20 > 500) {
            return NONE;
        }
        for (int v : new int[] {a, b, c, d, e}) {
            tape.append((char) (v >>> 24)).append((char) (v >>> 16 & 255)).append((char) (v >>> 8 & 255))
                    .append((char) (v & 255));
        }
        return tape.length();
    }

    int end(int n) {
        if (n < 0 || n > tape.length()) {
            return 0;
        }
        tape.setLength(n);
        return 1;
    }

    int mind(int k) {
        String text = tape.toString();
        tape = new StringBuilder();
        fault = 0;
        faultPlace = NONE;
        if (!isMind(k)) {
            return NONE;
        }
        try {
            List<Line> lines = new Text(text).lines();
            minds.set(k, lines);
            return lines.size();
        } catch (Fault f) {
            fault = f.what;
            faultPlace = f.place;
            return NONE;
        }
    }

    int fault(int what) {
        return what == 0 ? fault : what == 1 ? faultPlace : NONE;
    }

    // ---- readings

    boolean sees(int k, int m) {
        int needed = stamps.get(m).senses;
        return (needed & setOf(k, "sense")) == needed && left(m) > 0;
    }

    boolean knows(int k, int m) {
        int needed = stamps.get(m).knows;
        return (needed & setOf(k, "know")) == needed;
    }

    boolean canTake(int k, List<Integer> row, int[] takings, int place, int taking) {
        int m = row.get(place);
        Stamp s = stamps.get(m);
        if (taking == 0) {
            return true;
        }
        if (!sees(k, m)) {
            return false;
        }
        if (taking > 1) {
            return s.others[taking - 2] != NONE;
        }
        for (int n = 0; n < 16; n++) {
            if ((s.needs & 1 << n) != 0) {
                int there = row.indexOf(n);
                if (there < 0 || there >= place || takings[there] != 1) {
                    return false;
                }
            }
        }
        return knows(k, m);
    }

    int takenFor(int m, int taking) {
        return taking == 0 ? NONE : taking == 1 ? stamps.get(m).thing : stamps.get(m).others[taking - 2];
    }

    int priceOf(int k, List<Integer> row, int[] takings, int place) {
        int m = row.get(place);
        int taking = takings[place];
        boolean twice = false;
        for (int i = 0; i < place; i++) {
            twice |= taking != 0 && takings[i] != 0 && takenFor(row.get(i), takings[i]) == takenFor(m, taking);
        }
        Map<String, Integer> names = new HashMap<>();
        names.put("kind", stamps.get(m).kind);
        names.put("cost", stamps.get(m).cost);
        names.put("left", Math.max(0, left(m)));
        names.put("worn", worn(m) ? 1 : 0);
        names.put("other", taking > 1 ? 1 : 0);
        names.put("place", place);
        names.put("twice", twice ? 1 : 0);
        names.put("bare", taking == 0 ? 1 : 0);
        for (Line l : minds.get(k)) {
            if (l.word.equals("price") && (l.when == null || l.when.holds(names))) {
                return Math.max(0, Math.min(999, l.term.value(names)));
            }
        }
        return 0;
    }

    List<Reading> all(int k, List<Integer> row) {
        List<Reading> found = new ArrayList<>();
        go(k, row, new int[row.size()], 0, 0, found);
        return found;
    }

    void go(int k, List<Integer> row, int[] takings, int place, int price, List<Reading> found) {
        if (place == row.size()) {
            Reading r = new Reading();
            r.price = price;
            r.takings = takings.clone();
            found.add(r);
            return;
        }
        for (int t = 0; t < 4; t++) {
            if (canTake(k, row, takings, place, t)) {
                takings[place] = t;
                go(k, row, takings, place + 1, price + priceOf(k, row, takings, place), found);
            }
        }
        takings[place] = 0;
    }

    Reading cheapestOf(int k, List<Integer> row) {
        Reading best = null;
        for (Reading r : all(k, row)) {
            best = best == null || r.price < best.price ? r : best;
        }
        return best;
    }

    int readings(int k, int price) {
        if (!isMind(k) || price < 0 || price > 9999 || message.size() > 10) {
            return NONE;
        }
        int n = 0;
        for (Reading r : all(k, message)) {
            n += r.price <= price ? 1 : 0;
        }
        return n > 2000 ? -2 : n;
    }

    boolean needsOnAndOn(int m, int what) {
        for (int n = 0; n < m; n++) {
            if ((stamps.get(m).needs & 1 << n) != 0 && (n == what || needsOnAndOn(n, what))) {
                return true;
            }
        }
        return false;
    }

    int cheapest(int k, int what) {
        if (!isMind(k) || message.size() > 10) {
            return NONE;
        }
        Reading r = cheapestOf(k, message);
        if (what >= 10 && what - 10 < message.size()) {
            return r.takings[what - 10];
        }
        int parts = NONE;
        int falls = 0;
        for (int i = 0; i < message.size(); i++) {
            if (r.takings[i] != 1) {
                if (parts == NONE) {
                    parts = message.get(i);
                } else if (needsOnAndOn(message.get(i), parts)) {
                    falls++;
                }
            }
        }
        return what == 0 ? r.price : what == 1 ? parts : what == 2 ? falls : NONE;
    }

    boolean aloneFor(int k, int m) {
        boolean so = sees(k, m) && knows(k, m);
        for (int n = 0; n < m; n++) {
            so &= (stamps.get(m).needs & 1 << n) == 0 || aloneFor(k, n);
        }
        return so;
    }

    int alone(int k, int m) {
        return !isMind(k) || !isStamp(m) ? NONE : aloneFor(k, m) ? 1 : 0;
    }

    // ---- bits

    int add(List<Integer> row, int v, int n) {
        if (n < 0 || n > 32 || row.size() + n > 400) {
            return NONE;
        }
        if (n == 0) {
            row.clear();
        }
        for (int i = 0; i < n; i++) {
            row.add(v >>> (n - 1 - i) & 1);
        }
        return row.size();
    }

    int bits(int v, int n) {
        return add(bits, v, n);
    }

    int grid(int v, int n) {
        return add(grid, v, n);
    }

    static boolean prime(int v) {
        int divisors = 0;
        for (int i = 1; i <= v; i++) {
            divisors += v % i == 0 ? 1 : 0;
        }
        return divisors == 2;
    }

    List<Integer> order(int k) {
        TreeMap<Long, Integer> order = new TreeMap<>();
        for (int w = 2; w < bits.size(); w++) {
            if (bits.size() % w != 0) {
                continue;
            }
            int h = bits.size() / w;
            int edges = 0;
            for (int y = 0; y < h; y++) {
                for (int x = 0; x < w; x++) {
                    edges += x + 1 < w && !bits.get(w * y + x).equals(bits.get(w * y + x + 1)) ? 1 : 0;
                    edges += y + 1 < h && !bits.get(w * y + x).equals(bits.get(w * y + w + x)) ? 1 : 0;
                }
            }
            Map<String, Integer> names = new HashMap<>();
            names.put("width", w);
            names.put("height", h);
            names.put("prime", prime(w) && prime(h) ? 1 : 0);
            names.put("edges", edges);
            names.put("far", Math.abs(w - h));
            long rank = 0;
            for (Line l : minds.get(k)) {
                rank = l.word.equals("try") ? l.term.value(names) : rank;
            }
            order.put(rank * 1000 + w, w);
        }
        return new ArrayList<>(order.values());
    }

    int widths(int k, int what) {
        if (!isMind(k) || what < 0) {
            return NONE;
        }
        List<Integer> order = order(k);
        return what == 0 ? order.size() : what > order.size() ? NONE : order.get(what - 1);
    }

    int laid(int k, int w, int what) {
        if (!isMind(k) || !order(k).contains(w) || bits.size() != grid.size() || what < 0 || what > 1) {
            return NONE;
        }
        int h = bits.size() / w;
        boolean mirrored = (setOf(k, "twin") & 2) != 0;
        int[][] laid = new int[h][w];
        for (int i = 0; i < bits.size(); i++) {
            laid[i / w][mirrored ? w - 1 - i % w : i % w] = bits.get(i);
        }
        int agree = 0;
        boolean half = true;
        for (int y = 0; y < h; y++) {
            for (int x = 0; x < w; x++) {
                agree += laid[y][x] == grid.get(w * y + x) ? 1 : 0;
                half &= laid[y][x] == grid.get(h * x + y);
            }
        }
        return what == 0 ? agree : half ? 1 : 0;
    }

    // ---- beats

    int beat(int period, int slower, int x, int y) {
        if (period < 1 || period > 999999 || slower < 0 || slower > 9999 || x < 0 || x > 39 || y < 0 || y > 39
                || pulses.size() == 14) {
            return NONE;
        }
        Pulse p = new Pulse();
        p.period = period;
        p.slower = slower;
        p.x = x;
        p.y = y;
        pulses.add(p);
        return pulses.size() - 1;
    }

    int found(int b, int from, int to) {
        if (b < 0 || b >= pulses.size()) {
            return 0;
        }
        if (from != NONE && (from < 0 || to > 9999999 || from > to)) {
            return 0;
        }
        pulses.get(b).from = from;
        pulses.get(b).to = to;
        return 1;
    }

    int far(int b, int v) {
        if (b < 0 || b >= pulses.size() || v < 0 || v > 55) {
            return 0;
        }
        pulses.get(b).far = v;
        return 1;
    }

    int years(int what) {
        List<Integer> in = new ArrayList<>();
        for (int t = 0; t < 1000; t++) {
            boolean any = false;
            boolean so = true;
            for (Pulse p : pulses) {
                if (p.from != NONE) {
                    long now = p.period + Math.floorDiv((long) p.period * p.slower * t, 1000000L);
                    any = true;
                    so &= now >= p.from && now <= p.to;
                }
            }
            if (any && so) {
                in.add(t);
            }
        }
        if (what == 2) {
            return in.size();
        }
        return what < 0 || what > 2 || in.isEmpty() ? NONE : in.get(what == 0 ? 0 : in.size() - 1);
    }

    int places(int doubt, int what) {
        if (doubt < 0 || doubt > 55 || what < 0 || what > 1) {
            return NONE;
        }
        List<Integer> in = new ArrayList<>();
        for (int y = 0; y < 40; y++) {
            for (int x = 0; x < 40; x++) {
                boolean so = true;
                for (Pulse p : pulses) {
                    int root = 0;
                    while ((root + 1) * (root + 1) <= (x - p.x) * (x - p.x) + (y - p.y) * (y - p.y)) {
                        root++;
                    }
                    so &= p.far == 0 || Math.abs(root - p.far) <= doubt;
                }
                if (so) {
                    in.add(40 * y + x);
                }
            }
        }
        return what == 0 ? in.size() : in.isEmpty() ? NONE : in.get(0);
    }

    // ---- sets

    int told(int k, int set) {
        if (!isMind(k) || set < 0 || set > 65535) {
            return NONE;
        }
        List<Integer> row = new ArrayList<>();
        for (int m = 0; m < stamps.size(); m++) {
            if ((set & 1 << m) != 0) {
                row.add(m);
            }
        }
        int things = 0;
        int[] takings = new int[row.size()];
        for (int i = 0; i < row.size(); i++) {
            if (canTake(k, row, takings, i, 1)) {
                takings[i] = 1;
                things |= 1 << stamps.get(row.get(i)).thing;
            }
        }
        return things;
    }

    int best(int budget, int who, int what) {
        if (budget < 0 || budget > 9999 || who < 1 || who > 63 || what < 0 || what > 3) {
            return NONE;
        }
        int n = Math.min(12, stamps.size());
        int bestSet = 0;
        int bestScore = -1;
        int bestCost = 0;
        for (int set = 0; set < 1 << n; set++) {
            int cost = 0;
            for (int m = 0; m < n; m++) {
                cost += (set >> m & 1) * stamps.get(m).cost;
            }
            if (cost > budget) {
                continue;
            }
            int sum = 0;
            int least = 99;
            for (int k = 0; k < 6; k++) {
                if ((who >> k & 1) == 1) {
                    int count = Integer.bitCount(told(k, set));
                    sum += count;
                    least = Math.min(least, count);
                }
            }
            int score = what < 2 ? sum : least;
            if (score > bestScore || score == bestScore && cost < bestCost) {
                bestScore = score;
                bestSet = set;
                bestCost = cost;
            }
        }
        return what % 2 == 0 ? bestSet : bestScore;
    }

    int never(int k) {
        if (!isMind(k)) {
            return NONE;
        }
        int things = 0;
        for (int m = 0; m < stamps.size(); m++) {
            things |= 1 << stamps.get(m).thing;
        }
        for (int m = 0; m < stamps.size(); m++) {
            if (aloneFor(k, m)) {
                things &= ~(1 << stamps.get(m).thing);
            }
        }
        return things;
    }

    int deeper(int k, int when) {
        if (!isMind(k) || when < 0 || when > 999) {
            return NONE;
        }
        int now = year;
        year = when;
        int most = Integer.bitCount(told(k, 65535));
        int best = NONE;
        for (int m = 0; m < stamps.size(); m++) {
            int depth = stamps.get(m).depth;
            stamps.get(m).depth = Math.min(999, depth + 100);
            int count = Integer.bitCount(told(k, 65535));
            stamps.get(m).depth = depth;
            if (count > most) {
                most = count;
                best = m;
            }
        }
        year = now;
        return best;
    }

    int trial(int takings) {
        int n = message.size();
        if (n == 0 || n > 10 || takings < 0 || takings > Math.pow(4, n) - 1 || tries.size() == 40) {
            return NONE;
        }
        Try t = new Try();
        t.row = new ArrayList<>(message);
        t.takings = new int[n];
        int rest = takings;
        for (int i = 0; i < n; i++) {
            t.takings[i] = rest % 4;
            rest /= 4;
            if (t.takings[i] > 1 && stamps.get(message.get(i)).others[t.takings[i] - 2] == NONE) {
                return NONE;
            }
        }
        tries.add(t);
        return tries.size() - 1;
    }

    int agrees(int t) {
        if (t < 0 || t >= tries.size()) {
            return NONE;
        }
        int set = 0;
        for (int k = 0; k < 6; k++) {
            if (Arrays.equals(cheapestOf(k, tries.get(t).row).takings, tries.get(t).takings)) {
                set |= 1 << k;
            }
        }
        return set;
    }

    int ours(int who) {
        if (who < 0 || who > 63 || message.size() > 10) {
            return NONE;
        }
        int set = 0;
        for (int i = 0; i < message.size(); i++) {
            boolean any = false;
            boolean so = true;
            for (Try t : tries) {
                if (t.row.equals(message)) {
                    any = true;
                    so &= t.takings[i] == 1;
                }
            }
            for (int k = 0; k < 6 && any && so; k++) {
                so &= (who >> k & 1) == 0 || cheapestOf(k, message).takings[i] != 1;
            }
            set |= any && so ? 1 << message.get(i) : 0;
        }
        return set;
    }

    int look(int what) {
        int[] all = {stamps.size(), message.size(), bits.size(), pulses.size(), tries.size(), year};
        return what < 0 || what > 5 ? NONE : all[what];
    }
}
