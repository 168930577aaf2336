/**
 * Plates for whoever finds them: marks, minds that read them, grids of bits, things that beat,
 * and people who were given a message cold.
 */
public final class GoldPlate {
    public static final int NONE = -1;
    public static final int SPENT = -2;

    private static final int NO_SUCH_MARK = NONE - 999999;
    private static final int MARKS = 16;
    private static final int KINDS = 7;
    private static final int MINDS = 6;
    private static final int LINES = 16;
    private static final int TAPE = 500;
    private static final int YEARS = 1000;
    private static final int MAP = 40;
    private static final int LONGEST_READ = 10;
    private static final int MOST_READINGS = 2000;
    private static final int DEAREST = 999;

    private final Plate plate;
    private final Mind[] minds;
    private final Parser parser;
    private final Sums sums;
    private final Search search;
    private final Chooser chooser;
    private final BitRow row;
    private final BitRow picture;
    private final Widths folds;
    private final Sky sky;
    private final Trials trials;
    /** THE MESSAGE, four bits for each MARK, the first one lowest. */
    private long message;
    private int messageSize;

    public GoldPlate() {
        Plate marks = new Plate();
        Mind[] readers = new Mind[MINDS];
        for (int k = 0; k < MINDS; k++) {
            readers[k] = new Mind();
        }
        Sums worker = new Sums();
        plate = marks;
        minds = readers;
        sums = worker;
        parser = new Parser();
        search = new Search(marks, worker);
        chooser = new Chooser(marks, readers);
        row = new BitRow();
        picture = new BitRow();
        folds = new Widths();
        sky = new Sky();
        trials = new Trials();
    }

    public int mark(int kind, int thing, int cost, int depth, int senses) {
        boolean fits = within(kind, 0, KINDS - 1) && within(thing, 0, 15) && within(cost, 1, 99)
                && within(depth, 0, 999) && within(senses, 0, 15);
        if (!fits || plate.size >= MARKS) {
            return NONE;
        }
        Mark made = plate.marks[plate.size];
        made.kind = kind;
        made.thing = thing;
        made.cost = cost;
        made.depth = depth;
        made.senses = senses;
        plate.size++;
        return plate.size - 1;
    }

    public boolean tell(int mark, int what, int v) {
        if (!plate.has(mark)) {
            return false;
        }
        Mark told = plate.marks[mark];
        switch (what) {
            case 0:
                return tellNeeds(told, mark, v);
            case 1:
                return tellKnows(told, v);
            case 2:
                return tellFirst(told, v);
            case 3:
                return tellSecond(told, v);
            default:
                return false;
        }
    }

    private static boolean tellNeeds(Mark told, int mark, int v) {
        if (!within(v, 0, (1 << mark) - 1)) {
            return false;
        }
        told.needs = v;
        return true;
    }

    private static boolean tellKnows(Mark told, int v) {
        if (!within(v, 0, 255)) {
            return false;
        }
        told.knows = v;
        return true;
    }

    private static boolean tellFirst(Mark told, int v) {
        // A second OTHER stands just with a first, so the first can't go while there is one.
        boolean leavesSecond = v == NONE && told.second != NONE;
        if (leavesSecond || !canBeOther(told, v)) {
            return false;
        }
        told.first = v;
        return true;
    }

    private static boolean tellSecond(Mark told, int v) {
        boolean lacksFirst = v != NONE && told.first == NONE;
        if (lacksFirst || !canBeOther(told, v)) {
            return false;
        }
        told.second = v;
        return true;
    }

    private static boolean canBeOther(Mark told, int v) {
        return v == NONE || (within(v, 0, 15) && v != told.thing);
    }

    public boolean hard(int kind, int v) {
        if (!within(kind, 0, KINDS - 1) || !within(v, 0, 99)) {
            return false;
        }
        plate.hardness[kind] = v;
        return true;
    }

    public boolean year(int v) {
        if (!within(v, 0, YEARS - 1)) {
            return false;
        }
        plate.now = v;
        return true;
    }

    public int of(int mark, int what) {
        if (!plate.has(mark)) {
            return NO_SUCH_MARK;
        }
        switch (what) {
            case 0:
                return plate.leftOf(plate.marks[mark]);
            case 1:
                return plate.wearOf(plate.marks[mark]);
            case 2:
                return plate.chainOf(mark);
            default:
                return NO_SUCH_MARK;
        }
    }

    public int put(int mark) {
        if (mark == NONE) {
            message = 0;
            messageSize = 0;
            return 0;
        }
        if (!plate.has(mark) || inMessage(mark) || messageSize >= MARKS) {
            return NONE;
        }
        message |= (long) mark << (4 * messageSize);
        messageSize++;
        return messageSize;
    }

    private boolean inMessage(int mark) {
        for (int i = 0; i < messageSize; i++) {
            if (markAt(message, i) == mark) {
                return true;
            }
        }
        return false;
    }

    public int feed(int a, int b, int c, int d, int e) {
        if (parser.size + 20 > TAPE) {
            return NONE;
        }
        parser.addBytes(a);
        parser.addBytes(b);
        parser.addBytes(c);
        parser.addBytes(d);
        parser.addBytes(e);
        return parser.size;
    }

    public boolean end(int n) {
        if (!within(n, 0, parser.size)) {
            return false;
        }
        parser.size = n;
        return true;
    }

    public int mind(int k) {
        if (!isMind(k)) {
            parser.forget();
            return NONE;
        }
        parser.scan();
        if (!parser.readsText()) {
            return NONE;
        }
        Mind old = minds[k];
        minds[k] = parser.draft;
        parser.draft = old;
        return minds[k].lines;
    }

    public int fault(int what) {
        if (what == 0) {
            return parser.fault;
        }
        return what == 1 ? parser.faultPlace : NONE;
    }

    public int readings(int k, int price) {
        if (!isMind(k) || !within(price, 0, 9999) || messageSize > LONGEST_READ) {
            return NONE;
        }
        search.setUp(message, messageSize, minds[k]);
        int count = search.countUpTo(price);
        return count > MOST_READINGS ? SPENT : count;
    }

    public int cheapest(int k, int what) {
        if (!isMind(k) || messageSize > LONGEST_READ) {
            return NONE;
        }
        boolean aboutTaking = within(what, 10, 9 + messageSize);
        if (!aboutTaking && !within(what, 0, 2)) {
            return NONE;
        }
        findCheapest(message, messageSize, k);
        if (aboutTaking) {
            return search.cheapestTaking(what - 10);
        }
        if (what == 0) {
            return search.cheapestPrice;
        }
        int place = search.partingPlace();
        if (what == 1) {
            return place == NONE ? NONE : markAt(message, place);
        }
        return place == NONE ? 0 : search.fallsFrom(place);
    }

    private void findCheapest(long marks, int size, int k) {
        search.setUp(marks, size, minds[k]);
        search.findCheapest();
    }

    public int alone(int k, int mark) {
        if (!isMind(k) || !plate.has(mark)) {
            return NONE;
        }
        // With all MARKS in a row by number, RIGHT asks just what ALONE asks.
        return plate.rights(plate.all(), minds[k], plate.now, NONE) >> mark & 1;
    }

    public int bits(int v, int n) {
        return row.append(v, n);
    }

    public int grid(int v, int n) {
        return picture.append(v, n);
    }

    public int widths(int k, int what) {
        if (!isMind(k) || what < 0) {
            return NONE;
        }
        folds.order(row, minds[k], sums);
        if (what == 0) {
            return folds.count;
        }
        return what <= folds.count ? folds.widths[what - 1] : NONE;
    }

    public int laid(int k, int width, int what) {
        if (!isMind(k) || !within(what, 0, 1) || !row.foldsBy(width) || row.size != picture.size) {
            return NONE;
        }
        int hand = minds[k].hand;
        if (what == 0) {
            return row.agreements(picture, width, hand);
        }
        return row.isHalf(picture, width, hand) ? 1 : 0;
    }

    public int beat(int period, int slower, int x, int y) {
        boolean fits = within(period, 1, 999999) && within(slower, 0, 9999)
                && within(x, 0, MAP - 1) && within(y, 0, MAP - 1);
        return fits ? sky.add(period, slower, x, y) : NONE;
    }

    public boolean found(int beat, int from, int to) {
        boolean fits = from == NONE || (within(from, 0, 9999999) && within(to, from, 9999999));
        if (!sky.has(beat) || !fits) {
            return false;
        }
        sky.from[beat] = from;
        sky.to[beat] = to;
        return true;
    }

    public boolean far(int beat, int v) {
        if (!sky.has(beat) || !within(v, 0, 55)) {
            return false;
        }
        sky.away[beat] = v;
        return true;
    }

    public int years(int what) {
        if (!within(what, 0, 2)) {
            return NONE;
        }
        sky.countYears();
        if (what == 2) {
            return sky.yearCount;
        }
        return what == 0 ? sky.firstYear : sky.lastYear;
    }

    public int places(int doubt, int what) {
        if (!within(doubt, 0, 55) || !within(what, 0, 1)) {
            return NONE;
        }
        sky.countPlaces(doubt);
        return what == 0 ? sky.placeCount : sky.firstPlace;
    }

    public int told(int k, int marks) {
        if (!isMind(k) || !within(marks, 0, 65535)) {
            return NONE;
        }
        return plate.thingsOf(plate.rights(marks, minds[k], plate.now, NONE));
    }

    public int best(int budget, int minds, int what) {
        if (!within(budget, 0, 9999) || !within(minds, 1, 63) || !within(what, 0, 3)) {
            return NONE;
        }
        chooser.findBest(budget, minds, what >= 2);
        return what == 0 || what == 2 ? chooser.bestSet : chooser.bestScore;
    }

    public int never(int k) {
        if (!isMind(k)) {
            return NONE;
        }
        // More MARKS never hinder one that is RIGHT, so the set of all tells all that can be told.
        int most = plate.thingsOf(plate.rights(plate.all(), minds[k], plate.now, NONE));
        return plate.thingsOf(plate.all()) & ~most;
    }

    public int deeper(int k, int year) {
        if (!isMind(k) || !within(year, 0, YEARS - 1)) {
            return NONE;
        }
        int most = countTold(k, year, NONE);
        int deepest = NONE;
        for (int i = 0; i < plate.size; i++) {
            int count = countTold(k, year, i);
            if (count > most) {
                most = count;
                deepest = i;
            }
        }
        return deepest;
    }

    private int countTold(int k, int year, int deepened) {
        return Integer.bitCount(plate.thingsOf(plate.rights(plate.all(), minds[k], year, deepened)));
    }

    public int trial(int takings) {
        boolean fits = within(messageSize, 1, LONGEST_READ)
                && within(takings, 0, (1 << (2 * messageSize)) - 1);
        if (!fits || !othersAreThere(takings)) {
            return NONE;
        }
        return trials.add(message, messageSize, takings);
    }

    private boolean othersAreThere(int takings) {
        for (int i = 0; i < messageSize; i++) {
            Mark mark = plate.marks[markAt(message, i)];
            int taking = takingAt(takings, i);
            if (taking >= 2 && mark.takenFor(taking) == NONE) {
                return false;
            }
        }
        return true;
    }

    public int agrees(int t) {
        if (!within(t, 0, trials.size - 1)) {
            return NONE;
        }
        int agreeing = 0;
        for (int k = 0; k < MINDS; k++) {
            findCheapest(trials.rows[t], trials.sizes[t], k);
            if (search.cheapestPacked() == trials.takings[t]) {
                agreeing |= 1 << k;
            }
        }
        return agreeing;
    }

    public int ours(int minds) {
        if (!within(minds, 0, 63) || messageSize > LONGEST_READ) {
            return NONE;
        }
        int places = trials.rightPlaces(message, messageSize);
        for (int k = 0; k < MINDS && places != 0; k++) {
            if ((minds >> k & 1) == 1) {
                findCheapest(message, messageSize, k);
                places &= ~placesTakenRight(search.cheapestPacked(), messageSize);
            }
        }
        return marksAtPlaces(places);
    }

    private int marksAtPlaces(int places) {
        int set = 0;
        for (int i = 0; i < messageSize; i++) {
            if ((places >> i & 1) == 1) {
                set |= 1 << markAt(message, i);
            }
        }
        return set;
    }

    public int look(int what) {
        switch (what) {
            case 0:
                return plate.size;
            case 1:
                return messageSize;
            case 2:
                return row.size;
            case 3:
                return sky.size;
            case 4:
                return trials.size;
            case 5:
                return plate.now;
            default:
                return NONE;
        }
    }

    private static boolean within(int v, int least, int most) {
        return v >= least && v <= most;
    }

    private static boolean isMind(int k) {
        return within(k, 0, MINDS - 1);
    }

    private static int markAt(long marks, int place) {
        return (int) (marks >>> (4 * place)) & 15;
    }

    private static int takingAt(int takings, int place) {
        return takings >> (2 * place) & 3;
    }

    private static int placesTakenRight(int takings, int size) {
        int places = 0;
        for (int i = 0; i < size; i++) {
            if (takingAt(takings, i) == 1) {
                places |= 1 << i;
            }
        }
        return places;
    }

    private static final class Mark {
        int kind;
        int thing;
        int cost;
        int depth;
        int senses;
        int needs;
        int knows;
        int first = NONE;
        int second = NONE;

        /** The THING for which a TAKING of 1 .. 3 takes it; NONE without that OTHER. */
        int takenFor(int taking) {
            if (taking == 1) {
                return thing;
            }
            return taking == 2 ? first : second;
        }
    }

    /** All MARKS, and how they wear. */
    private static final class Plate {
        final Mark[] marks = new Mark[MARKS];
        final int[] hardness = new int[KINDS];
        final int[] chains = new int[MARKS];
        int size;
        int now;

        Plate() {
            for (int i = 0; i < MARKS; i++) {
                marks[i] = new Mark();
            }
        }

        boolean has(int mark) {
            return mark >= 0 && mark < size;
        }

        int all() {
            return (1 << size) - 1;
        }

        int leftOf(Mark mark) {
            return mark.depth - now * hardness[mark.kind];
        }

        /** 0 WHOLE, 1 WORN, 2 GONE. */
        int wearOf(Mark mark) {
            int left = leftOf(mark);
            if (left <= 0) {
                return 2;
            }
            return left < mark.depth / 2 ? 1 : 0;
        }

        /** NEEDS are lesser MARKS, so one walk upwards finds every shorter row first. */
        int chainOf(int mark) {
            for (int i = 0; i <= mark && i < size; i++) {
                int longest = 0;
                for (int j = 0; j < i; j++) {
                    if ((marks[i].needs >> j & 1) == 1) {
                        longest = Math.max(longest, chains[j]);
                    }
                }
                chains[i] = longest + 1;
            }
            return chains[mark];
        }

        /** The MARK and all that it needs, on and on: one walk downwards, as NEEDS are lesser. */
        int rootsOf(int mark) {
            int roots = 1 << mark;
            for (int i = mark; i >= 0; i--) {
                if ((roots >> i & 1) == 1) {
                    roots |= marks[i].needs;
                }
            }
            return roots;
        }

        boolean canSee(Mind mind, Mark mark) {
            return (mark.senses & ~mind.senses) == 0 && leftOf(mark) > 0;
        }

        /** Whether all but the NEEDS is there to take a MARK RIGHT; one MARK may be deepened. */
        boolean isAble(Mind mind, int mark, int year, int deepened) {
            Mark m = marks[mark];
            int depth = mark == deepened ? Math.min(999, m.depth + 100) : m.depth;
            return (m.senses & ~mind.senses) == 0 && (m.knows & ~mind.knows) == 0
                    && depth - year * hardness[m.kind] > 0;
        }

        /** The MARKS that are RIGHT, if just those of a set stand in a row by number. */
        int rights(int set, Mind mind, int year, int deepened) {
            int rights = 0;
            for (int i = 0; i < size; i++) {
                boolean stands = (set >> i & 1) == 1 && (marks[i].needs & ~rights) == 0;
                if (stands && isAble(mind, i, year, deepened)) {
                    rights |= 1 << i;
                }
            }
            return rights;
        }

        int thingsOf(int set) {
            int things = 0;
            for (int i = 0; i < size; i++) {
                if ((set >> i & 1) == 1) {
                    things |= 1 << marks[i].thing;
                }
            }
            return things;
        }
    }

    /** A MIND: its lines as code for Sums. */
    private static final class Mind {
        final int[] code = new int[TAPE];
        /** Of each price line: where E begins, where B begins (E ends), where B ends. */
        final int[] priceFrom = new int[LINES];
        final int[] priceWhen = new int[LINES];
        final int[] priceTo = new int[LINES];
        int senses;
        int knows;
        int hand;
        int lines;
        int prices;
        int codeSize;
        int tryFrom;
        int tryTo;
        boolean twinned;
        boolean tries;

        void clear() {
            senses = 0;
            knows = 0;
            hand = 0;
            lines = 0;
            prices = 0;
            codeSize = 0;
            tryFrom = 0;
            tryTo = 0;
            twinned = false;
            tries = false;
        }

        int priceBy(Sums sums) {
            for (int i = 0; i < prices; i++) {
                boolean always = priceWhen[i] == priceTo[i];
                if (always || sums.work(code, priceWhen[i], priceTo[i]) != 0) {
                    int price = sums.work(code, priceFrom[i], priceWhen[i]);
                    return Math.max(0, Math.min(DEAREST, price));
                }
            }
            return 0;
        }

        int rankBy(Sums sums) {
            return tries ? sums.work(code, tryFrom, tryTo) : 0;
        }
    }

    /** Works code whose operators stand behind what they join. */
    private static final class Sums {
        static final int NUMBER = 0;
        static final int VALUE = 1;
        static final int ADD = 2;
        static final int LESSEN = 3;
        static final int TIMES = 4;
        static final int PART = 5;
        static final int BELOW = 6;
        static final int SAME = 7;
        static final int ABOVE = 8;
        static final int NOT = 9;
        static final int AND = 10;
        static final int OR = 11;

        /** In the order of the units' KEYWORDS. */
        static final int KIND = 0;
        static final int COST = 1;
        static final int LEFT = 2;
        static final int WORN = 3;
        static final int OTHER = 4;
        static final int PLACE = 5;
        static final int TWICE = 6;
        static final int BARE = 7;
        static final int WIDTH = 8;
        static final int HEIGHT = 9;
        static final int PRIME = 10;
        static final int EDGES = 11;
        static final int FAR = 12;
        static final int VALUES = 13;

        final int[] values = new int[VALUES];
        /** Eight open brackets keep two each, and a comparison four more: far below this. */
        final int[] stack = new int[64];
        int top;

        void clear() {
            for (int i = 0; i < VALUES; i++) {
                values[i] = 0;
            }
        }

        int work(int[] code, int from, int to) {
            top = 0;
            for (int i = from; i < to && i < code.length; i++) {
                step(code[i] & 15, code[i] >> 4);
            }
            return top > 0 ? stack[top - 1] : 0;
        }

        private void step(int op, int v) {
            if (op <= VALUE && top < stack.length) {
                boolean known = v >= 0 && v < VALUES;
                stack[top] = op == NUMBER ? v : known ? values[v] : 0;
                top++;
            } else if (op == PART && top > 0 && v != 0) {
                stack[top - 1] /= v;
            } else if (op == NOT && top > 0) {
                stack[top - 1] = 1 - stack[top - 1];
            } else if (top > 1) {
                top--;
                stack[top - 1] = join(op, stack[top - 1], stack[top]);
            }
        }

        private static int join(int op, int a, int b) {
            switch (op) {
                case ADD:
                    return a + b;
                case LESSEN:
                    return a - b;
                case TIMES:
                    return a * b;
                case BELOW:
                    return a < b ? 1 : 0;
                case SAME:
                    return a == b ? 1 : 0;
                case ABOVE:
                    return a > b ? 1 : 0;
                case AND:
                    return a & b;
                default:
                    return a | b;
            }
        }
    }

    /** The TAPE, its TOKENS, and the TEXT that they make. */
    private static final class Parser {
        static final String WORDS = "sense know twin price try when or and not ";
        static final String UNITS = "kind cost left worn other place twice bare width height prime edges far ";
        static final String SIGNS = ";+-*/()<=>";
        /** TOKENS are KEYWORDS by their place in WORDS and then UNITS, signs by their byte, and these. */
        static final int SENSE = 0;
        static final int KNOW = 1;
        static final int TWIN = 2;
        static final int PRICE = 3;
        static final int TRY = 4;
        static final int WHEN = 5;
        static final int OR = 6;
        static final int AND = 7;
        static final int NOT = 8;
        static final int FIRST_UNIT = 9;
        static final int LAST_UNIT = 21;
        static final int NUMBER = 30;
        static final int END = 31;
        static final int NO_TOKEN = 32;
        static final int NO_SIGN = 33;
        static final int MOST_OPEN = 8;

        final int[] bytes = new int[TAPE];
        final int[] kinds = new int[TAPE + 1];
        final int[] numbers = new int[TAPE + 1];
        final int[] spots = new int[TAPE + 1];
        int size;
        int tokens;
        int at;
        int fault;
        int faultPlace = NONE;
        /** A MIND that nobody has: a TEXT is read into it, so that a FAULT harms no one. */
        Mind draft = new Mind();

        void addBytes(int v) {
            for (int shift = 24; shift >= 0; shift -= 8) {
                if (size < TAPE) {
                    bytes[size] = v >> shift & 255;
                    size++;
                }
            }
        }

        /** The TAPE is empty then, and nothing is faulty. */
        void forget() {
            size = 0;
            fault = 0;
            faultPlace = NONE;
        }

        /** The TAPE becomes TOKENS; what is none is told when it is come to. */
        void scan() {
            tokens = 0;
            int next = 0;
            for (int i = 0; i < size; i++) {
                if (i == next) {
                    next = runEnd(i);
                    scanRun(i, next);
                }
            }
            addToken(END, 0, size);
        }

        private void scanRun(int from, int to) {
            int c = bytes[from];
            if (isLetter(c)) {
                addToken(keyword(from, to), 0, from);
            } else if (isDigit(c)) {
                addToken(to - from > 4 ? NO_TOKEN : NUMBER, numberOf(from, to), from);
            } else if (c != 32 && c != 10) {
                addToken(SIGNS.indexOf((char) c) >= 0 ? c : NO_TOKEN, 0, from);
            }
        }

        private void addToken(int kind, int number, int spot) {
            if (tokens <= TAPE) {
                kinds[tokens] = kind;
                numbers[tokens] = number;
                spots[tokens] = spot;
                tokens++;
            }
        }

        /** Where the letters or digits that stand together end; another byte stands by itself. */
        private int runEnd(int from) {
            boolean letters = isLetter(bytes[from]);
            boolean digits = isDigit(bytes[from]);
            int to = from + 1;
            while (to < size && (letters && isLetter(bytes[to]) || digits && isDigit(bytes[to]))) {
                to++;
            }
            return to;
        }

        private static boolean isLetter(int c) {
            return c >= 'a' && c <= 'z' || c >= 'A' && c <= 'Z';
        }

        private static boolean isDigit(int c) {
            return c >= '0' && c <= '9';
        }

        private int numberOf(int from, int to) {
            int number = 0;
            for (int i = from; i < to; i++) {
                number = number * 10 + bytes[i] - '0';
            }
            return number;
        }

        private int keyword(int from, int to) {
            int word = indexIn(WORDS, from, to);
            if (word != NONE) {
                return word;
            }
            int unit = indexIn(UNITS, from, to);
            return unit != NONE ? FIRST_UNIT + unit : NO_TOKEN;
        }

        /** Which of the words, each with a blank behind it, stands on the TAPE; NONE if none does. */
        private int indexIn(String words, int from, int to) {
            int index = 0;
            int start = 0;
            for (int i = 0; i < words.length(); i++) {
                if (words.charAt(i) == ' ') {
                    if (i - start == to - from && standsAt(words, start, from, to - from)) {
                        return index;
                    }
                    index++;
                    start = i + 1;
                }
            }
            return NONE;
        }

        private boolean standsAt(String words, int start, int from, int length) {
            for (int i = 0; i < length; i++) {
                if (words.charAt(start + i) != bytes[from + i]) {
                    return false;
                }
            }
            return true;
        }

        /** Whether the TOKENS are a TEXT without a FAULT; every FAULT is at the TOKEN where it is met. */
        boolean readsText() {
            forget();
            at = 0;
            draft.clear();
            for (int i = 0; i <= TAPE && fault == 0 && kind() != END; i++) {
                readLine();
            }
            return fault == 0;
        }

        private void readLine() {
            int word = kind();
            if (word < SENSE || word > TRY) {
                fail(1);
                return;
            }
            boolean again = word == TWIN && draft.twinned || word == TRY && draft.tries;
            if (again || draft.lines >= LINES) {
                fail(3);
                return;
            }
            int line = draft.prices;
            draft.lines++;
            at++;
            if (word == PRICE && line < LINES) {
                draft.priceFrom[line] = draft.codeSize;
                expression();
                draft.priceWhen[line] = draft.codeSize;
                if (fault == 0 && kind() == WHEN) {
                    at++;
                    condition(0);
                }
                draft.priceTo[line] = draft.codeSize;
                draft.prices++;
            } else if (word == TRY) {
                draft.tries = true;
                draft.tryFrom = draft.codeSize;
                expression();
                draft.tryTo = draft.codeSize;
            } else {
                readNumber(word);
            }
            expect(';');
        }

        private void readNumber(int word) {
            if (kind() != NUMBER) {
                fail(1);
                return;
            }
            int number = numbers[at];
            int most = word == SENSE ? 3 : word == KNOW ? 7 : 1;
            if (number > most) {
                fail(2);
                return;
            }
            at++;
            if (word == SENSE) {
                draft.senses |= 1 << number;
            } else if (word == KNOW) {
                draft.knows |= 1 << number;
            } else {
                draft.twinned = true;
                draft.hand = number;
            }
        }

        /** B: what or joins waits until the and behind it is done. */
        private void condition(int open) {
            boolean waits = false;
            check(open);
            for (int i = 0; i <= TAPE && fault == 0; i++) {
                if (kind() == AND) {
                    at++;
                    check(open);
                    emit(Sums.AND, 0);
                } else if (kind() == OR) {
                    if (waits) {
                        emit(Sums.OR, 0);
                    }
                    waits = true;
                    at++;
                    check(open);
                } else {
                    break;
                }
            }
            if (waits) {
                emit(Sums.OR, 0);
            }
        }

        /** C, with as many brackets and nots open around it. */
        private void check(int open) {
            int word = kind();
            boolean opens = word == NOT || word == '(';
            if (opens && open >= MOST_OPEN) {
                fail(3);
            } else if (word == NOT) {
                at++;
                check(open + 1);
                emit(Sums.NOT, 0);
            } else if (word == '(') {
                at++;
                condition(open + 1);
                expect(')');
            } else {
                expression();
                int sign = kind();
                expectComparison(sign);
                expression();
                emit(sign == '<' ? Sums.BELOW : sign == '=' ? Sums.SAME : Sums.ABOVE, 0);
            }
        }

        private void expectComparison(int sign) {
            expect(sign == '<' || sign == '=' || sign == '>' ? sign : NO_SIGN);
        }

        /** E: a + or - waits until the T behind it is done. */
        private void expression() {
            int waiting = NONE;
            unit();
            for (int i = 0; i <= TAPE && fault == 0; i++) {
                int sign = kind();
                if (sign == '*') {
                    at++;
                    unit();
                    emit(Sums.TIMES, 0);
                } else if (sign == '/') {
                    at++;
                    part();
                } else if (sign == '+' || sign == '-') {
                    if (waiting != NONE) {
                        emit(waiting, 0);
                    }
                    waiting = sign == '+' ? Sums.ADD : Sums.LESSEN;
                    at++;
                    unit();
                } else {
                    break;
                }
            }
            if (waiting != NONE) {
                emit(waiting, 0);
            }
        }

        private void unit() {
            int word = kind();
            if (word == NUMBER) {
                emit(Sums.NUMBER, numbers[at]);
                at++;
            } else if (word >= FIRST_UNIT && word <= LAST_UNIT) {
                emit(Sums.VALUE, word - FIRST_UNIT);
                at++;
            } else {
                fail(1);
            }
        }

        private void part() {
            if (kind() != NUMBER) {
                fail(1);
            } else if (numbers[at] == 0) {
                fail(2);
            } else {
                emit(Sums.PART, numbers[at]);
                at++;
            }
        }

        private void expect(int sign) {
            if (kind() == sign) {
                at++;
            } else {
                fail(1);
            }
        }

        private int kind() {
            return at >= 0 && at < tokens ? kinds[at] : END;
        }

        /** The first FAULT stays: TOKENS are met in the order of their places. */
        private void fail(int what) {
            if (fault == 0) {
                fault = what;
                faultPlace = at >= 0 && at < tokens ? spots[at] : NONE;
            }
        }

        private void emit(int op, int v) {
            if (draft.codeSize < draft.code.length) {
                draft.code[draft.codeSize] = v << 4 | op;
                draft.codeSize++;
            }
        }
    }

    /** All READINGS of a message of up to ten MARKS by a MIND, cut off where they get too dear. */
    private static final class Search {
        /** A place's prices: bare, RIGHT and OTHER, each not twice and twice. */
        static final int KINDS_OF_PRICE = 6;

        private final Plate plate;
        private final Sums sums;
        private final int[] marks = new int[LONGEST_READ];
        /** Which TAKINGS a place may have, whatever the others have (NEEDS stand ahead). */
        private final int[] allowed = new int[LONGEST_READ];
        private final int[] prices = new int[LONGEST_READ * KINDS_OF_PRICE];
        /** The least that all from a place on can cost. */
        private final int[] floors = new int[LONGEST_READ + 1];
        private final int[] takings = new int[LONGEST_READ];
        private final int[] chosen = new int[LONGEST_READ];
        private int size;
        private int limit;
        private int count;
        private boolean counting;
        int cheapestPrice;

        Search(Plate plate, Sums sums) {
            this.plate = plate;
            this.sums = sums;
        }

        void setUp(long row, int length, Mind mind) {
            size = Math.min(length, LONGEST_READ);
            int ahead = 0;
            for (int i = 0; i < size; i++) {
                marks[i] = markAt(row, i);
                allowed[i] = takingsOf(plate.marks[marks[i]], mind, ahead);
                ahead |= 1 << marks[i];
                priceAll(i, mind);
            }
            setFloors();
        }

        private int takingsOf(Mark mark, Mind mind, int ahead) {
            if (!plate.canSee(mind, mark)) {
                return 1;
            }
            boolean right = (mark.knows & ~mind.knows) == 0 && (mark.needs & ~ahead) == 0;
            return 1 | (right ? 2 : 0) | (mark.first != NONE ? 4 : 0) | (mark.second != NONE ? 8 : 0);
        }

        private void priceAll(int place, Mind mind) {
            Mark mark = plate.marks[marks[place]];
            sums.clear();
            sums.values[Sums.KIND] = mark.kind;
            sums.values[Sums.COST] = mark.cost;
            sums.values[Sums.LEFT] = Math.max(0, plate.leftOf(mark));
            sums.values[Sums.WORN] = plate.wearOf(mark) == 1 ? 1 : 0;
            sums.values[Sums.PLACE] = place;
            int from = place * KINDS_OF_PRICE;
            for (int i = 0; i < KINDS_OF_PRICE; i++) {
                sums.values[Sums.BARE] = i < 2 ? 1 : 0;
                sums.values[Sums.OTHER] = i >= 4 ? 1 : 0;
                // A MARK that is not read is never twice, so both of its prices are alike.
                sums.values[Sums.TWICE] = i >= 2 ? i & 1 : 0;
                prices[from + i] = mind.priceBy(sums);
            }
        }

        private void setFloors() {
            floors[size] = 0;
            for (int i = size - 1; i >= 0; i--) {
                int from = i * KINDS_OF_PRICE;
                int least = prices[from];
                if ((allowed[i] & 2) != 0) {
                    least = Math.min(least, Math.min(prices[from + 2], prices[from + 3]));
                }
                if ((allowed[i] & 12) != 0) {
                    least = Math.min(least, Math.min(prices[from + 4], prices[from + 5]));
                }
                floors[i] = floors[i + 1] + least;
            }
        }

        /** How many READINGS there are up to a price; the count stops one above the most. */
        int countUpTo(int price) {
            counting = true;
            count = 0;
            limit = price;
            if (floors[0] <= limit) {
                walk(0, 0, 0, 0);
            }
            return count;
        }

        void findCheapest() {
            counting = false;
            limit = LONGEST_READ * DEAREST;
            walk(0, 0, 0, 0);
        }

        private void walk(int place, int spent, int things, int rights) {
            if (place >= size) {
                arrive(spent);
                return;
            }
            Mark mark = plate.marks[marks[place]];
            for (int taking = 0; taking < 4; taking++) {
                boolean may = (allowed[place] >> taking & 1) == 1
                        && (taking != 1 || (mark.needs & ~rights) == 0);
                int thing = taking == 0 || !may ? 0 : 1 << mark.takenFor(taking);
                int twice = (things & thing) != 0 ? 1 : 0;
                int sum = spent + prices[place * KINDS_OF_PRICE + 2 * Math.min(taking, 2) + twice];
                if (may && sum + floors[place + 1] <= limit) {
                    takings[place] = taking;
                    int right = taking == 1 ? 1 << marks[place] : 0;
                    walk(place + 1, sum, things | thing, rights | right);
                }
            }
        }

        private void arrive(int spent) {
            if (counting) {
                count++;
                // No price is below 0: with this limit the walk goes nowhere any more.
                limit = count > MOST_READINGS ? -1 : limit;
                return;
            }
            cheapestPrice = spent;
            // Of several the first is THE CHEAPEST, so what comes now must cost less.
            limit = spent - 1;
            for (int i = 0; i < size; i++) {
                chosen[i] = takings[i];
            }
        }

        int cheapestTaking(int place) {
            return place >= 0 && place < size ? chosen[place] : NONE;
        }

        int cheapestPacked() {
            int packed = 0;
            for (int i = 0; i < size; i++) {
                packed |= chosen[i] << (2 * i);
            }
            return packed;
        }

        int partingPlace() {
            for (int i = 0; i < size; i++) {
                if (chosen[i] != 1) {
                    return i;
                }
            }
            return NONE;
        }

        int fallsFrom(int place) {
            int falls = 0;
            for (int i = place + 1; i < size; i++) {
                if (chosen[i] != 1 && (plate.rootsOf(marks[i]) >> marks[place] & 1) == 1) {
                    falls++;
                }
            }
            return falls;
        }
    }

    /** Tries the sets of the first twelve MARKS, each grown by greater MARKS, for several MINDS at once. */
    private static final class Chooser {
        static final int MOST = 12;

        private final Plate plate;
        private final Mind[] minds;
        /** Of each MIND that is asked: the MARKS that it could take RIGHT but for their NEEDS. */
        private final int[] able = new int[MINDS];
        /** For each size of a set and each MIND that is asked: the RIGHT MARKS, the THINGS TOLD. */
        private final int[] rights = new int[(MOST + 1) * MINDS];
        private final int[] things = new int[(MOST + 1) * MINDS];
        private int asked;
        private int size;
        private int budget;
        private boolean worst;
        private int bestCost;
        int bestSet;
        int bestScore;

        Chooser(Plate plate, Mind[] minds) {
            this.plate = plate;
            this.minds = minds;
        }

        /** The set that tells most in all, or, for the worst, that with the greatest least. */
        void findBest(int most, int mindSet, boolean forWorst) {
            size = Math.min(plate.size, MOST);
            budget = most;
            worst = forWorst;
            bestSet = 0;
            bestCost = 0;
            bestScore = NONE;
            asked = 0;
            for (int k = 0; k < MINDS; k++) {
                if ((mindSet >> k & 1) == 1) {
                    able[asked] = ableMarks(minds[k]);
                    rights[asked] = 0;
                    things[asked] = 0;
                    asked++;
                }
            }
            grow(0, 0, 0, 0);
        }

        private int ableMarks(Mind mind) {
            int set = 0;
            for (int i = 0; i < size; i++) {
                if (plate.isAble(mind, i, plate.now, NONE)) {
                    set |= 1 << i;
                }
            }
            return set;
        }

        /** Judges a set of so many MARKS, then all that have it and more from a MARK on. */
        private void grow(int count, int from, int set, int cost) {
            judge(count, set, cost);
            for (int mark = from; mark < size && count < MOST; mark++) {
                int dearer = cost + plate.marks[mark].cost;
                // A MARK that is RIGHT for none costs for nothing: the set without it is better.
                if (dearer <= budget && gains(count, mark)) {
                    grow(count + 1, mark + 1, set | 1 << mark, dearer);
                }
            }
        }

        /** Tells what is told with one MARK more; whether any MIND takes that one RIGHT. */
        private boolean gains(int count, int mark) {
            Mark more = plate.marks[mark];
            boolean gained = false;
            for (int k = 0; k < asked; k++) {
                int here = count * MINDS + k;
                int next = here + MINDS;
                boolean right = (able[k] >> mark & 1) == 1 && (more.needs & ~rights[here]) == 0;
                rights[next] = rights[here] | (right ? 1 << mark : 0);
                things[next] = things[here] | (right ? 1 << more.thing : 0);
                gained |= right;
            }
            return gained;
        }

        private void judge(int count, int set, int cost) {
            int score = scoreOf(count);
            boolean better = score > bestScore || score == bestScore
                    && (cost < bestCost || cost == bestCost && set < bestSet);
            if (better) {
                bestScore = score;
                bestCost = cost;
                bestSet = set;
            }
        }

        private int scoreOf(int count) {
            int sum = 0;
            int least = MARKS;
            for (int k = 0; k < asked; k++) {
                int told = Integer.bitCount(things[count * MINDS + k]);
                sum += told;
                least = Math.min(least, told);
            }
            return worst ? least : sum;
        }
    }

    /** A row of up to 400 bits. */
    private static final class BitRow {
        static final int MOST = 400;

        final byte[] bits = new byte[MOST];
        int size;

        int append(int v, int n) {
            if (n < 0 || n > 32 || size + n > MOST) {
                return NONE;
            }
            if (n == 0) {
                size = 0;
            }
            for (int i = n - 1; i >= 0; i--) {
                bits[size] = (byte) (v >> i & 1);
                size++;
            }
            return size;
        }

        boolean foldsBy(int width) {
            return width >= 2 && width <= size / 2 && size % width == 0;
        }

        /** How many neighbours, side by side or one above the other, are unlike. */
        int edges(int width) {
            int edges = 0;
            int x = 0;
            for (int i = 0; i < size; i++) {
                x++;
                if (x < width && i + 1 < size && bits[i] != bits[i + 1]) {
                    edges++;
                }
                if (x >= width) {
                    x = 0;
                }
                if (i + width < size && bits[i] != bits[i + width]) {
                    edges++;
                }
            }
            return edges;
        }

        /** The place whose bit is LAID at a row and a column. */
        private static int placeOf(int width, int y, int x, int hand) {
            return width * y + (hand == 1 ? width - 1 - x : x);
        }

        /** In how many places it agrees with a GRID of as many bits. */
        int agreements(BitRow other, int width, int hand) {
            int count = 0;
            for (int y = 0; y < heightFor(width); y++) {
                for (int x = 0; x < width; x++) {
                    if (bits[placeOf(width, y, x, hand)] == other.bits[width * y + x]) {
                        count++;
                    }
                }
            }
            return count;
        }

        boolean isHalf(BitRow other, int width, int hand) {
            int height = heightFor(width);
            for (int y = 0; y < height; y++) {
                for (int x = 0; x < width; x++) {
                    if (bits[placeOf(width, y, x, hand)] != other.bits[height * x + y]) {
                        return false;
                    }
                }
            }
            return true;
        }

        int heightFor(int width) {
            return width > 0 ? size / width : 0;
        }
    }

    /** The WIDTHS of a row, in the order that a MIND tries them. */
    private static final class Widths {
        /** No number up to 400 has more than 24 divisors. */
        static final int MOST = 24;

        final int[] widths = new int[MOST];
        private final int[] ranks = new int[MOST];
        int count;

        void order(BitRow row, Mind mind, Sums sums) {
            count = 0;
            for (int width = 2; width <= row.size / 2; width++) {
                if (row.foldsBy(width)) {
                    insert(width, rankOf(row, width, mind, sums));
                }
            }
        }

        private static int rankOf(BitRow row, int width, Mind mind, Sums sums) {
            int height = row.heightFor(width);
            sums.clear();
            sums.values[Sums.WIDTH] = width;
            sums.values[Sums.HEIGHT] = height;
            sums.values[Sums.PRIME] = isPrime(width) && isPrime(height) ? 1 : 0;
            sums.values[Sums.EDGES] = row.edges(width);
            sums.values[Sums.FAR] = Math.abs(width - height);
            return mind.rankBy(sums);
        }

        private static boolean isPrime(int v) {
            for (int i = 2; i * i <= v; i++) {
                if (v % i == 0) {
                    return false;
                }
            }
            return v >= 2;
        }

        /** Widths come from the least on, so of several with one rank the lesser stays ahead. */
        private void insert(int width, int rank) {
            if (count >= MOST) {
                return;
            }
            int place = count;
            for (int i = count; i > 0 && ranks[i - 1] > rank; i--) {
                ranks[i] = ranks[i - 1];
                widths[i] = widths[i - 1];
                place = i - 1;
            }
            ranks[place] = rank;
            widths[place] = width;
            count++;
        }
    }

    /** All BEATS, the time that they tell and the place. */
    private static final class Sky {
        static final int MOST = 14;

        private final int[] periods = new int[MOST];
        private final int[] slowers = new int[MOST];
        private final int[] columns = new int[MOST];
        private final int[] rows = new int[MOST];
        final int[] from = new int[MOST];
        final int[] to = new int[MOST];
        final int[] away = new int[MOST];
        int size;
        int yearCount;
        int firstYear;
        int lastYear;
        int placeCount;
        int firstPlace;

        int add(int period, int slower, int x, int y) {
            if (size >= MOST) {
                return NONE;
            }
            periods[size] = period;
            slowers[size] = slower;
            columns[size] = x;
            rows[size] = y;
            from[size] = NONE;
            size++;
            return size - 1;
        }

        boolean has(int beat) {
            return beat >= 0 && beat < size;
        }

        void countYears() {
            yearCount = 0;
            firstYear = NONE;
            lastYear = NONE;
            boolean any = anyFound();
            for (int year = 0; year < YEARS; year++) {
                if (any && fitsAll(year)) {
                    firstYear = yearCount == 0 ? year : firstYear;
                    lastYear = year;
                    yearCount++;
                }
            }
        }

        private boolean anyFound() {
            for (int i = 0; i < size; i++) {
                if (from[i] != NONE) {
                    return true;
                }
            }
            return false;
        }

        private boolean fitsAll(int year) {
            for (int i = 0; i < size; i++) {
                if (from[i] != NONE && !fits(i, year)) {
                    return false;
                }
            }
            return true;
        }

        private boolean fits(int beat, int year) {
            long more = (long) periods[beat] * slowers[beat] * year / 1000000;
            long period = periods[beat] + more;
            return period >= from[beat] && period <= to[beat];
        }

        void countPlaces(int doubt) {
            placeCount = 0;
            firstPlace = NONE;
            for (int cell = 0; cell < MAP * MAP; cell++) {
                if (isPlace(cell % MAP, cell / MAP, doubt)) {
                    firstPlace = placeCount == 0 ? cell : firstPlace;
                    placeCount++;
                }
            }
        }

        private boolean isPlace(int x, int y, int doubt) {
            for (int i = 0; i < size; i++) {
                int across = x - columns[i];
                int down = y - rows[i];
                int square = across * across + down * down;
                if (away[i] != 0 && !isAbout(square, away[i], doubt)) {
                    return false;
                }
            }
            return true;
        }

        /** A ROOT is least .. most just if the square is least * least .. below (most + 1) squared. */
        private static boolean isAbout(int square, int far, int doubt) {
            int least = Math.max(0, far - doubt);
            int above = far + doubt + 1;
            return square >= least * least && square < above * above;
        }
    }

    /** What people took THE MESSAGE for, each with the row of MARKS that it was then. */
    private static final class Trials {
        static final int MOST = 40;

        final long[] rows = new long[MOST];
        final int[] sizes = new int[MOST];
        final int[] takings = new int[MOST];
        int size;

        int add(long row, int length, int taken) {
            if (size >= MOST) {
                return NONE;
            }
            rows[size] = row;
            sizes[size] = length;
            takings[size] = taken;
            size++;
            return size - 1;
        }

        /** The places that all TRIALS of a message took RIGHT: none without TRIALS of it. */
        int rightPlaces(long row, int length) {
            boolean any = false;
            int places = (1 << length) - 1;
            for (int i = 0; i < size; i++) {
                if (rows[i] == row && sizes[i] == length) {
                    any = true;
                    places &= placesTakenRight(takings[i], length);
                }
            }
            return any ? places : 0;
        }
    }
}
