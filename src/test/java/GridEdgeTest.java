/** Sentences of the document about BITS, GRID, WIDTHS and LAID that name an edge, each with its own test. */
public final class GridEdgeTest {
    private static final int NONE = GoldPlate.NONE;
    private static final int LEAST = Integer.MIN_VALUE;
    private static final int MOST = Integer.MAX_VALUE;
    private static final Due due = new Due();

    public static void main(String[] args) {
        bitsOfANumber();
        highestFirst();
        noneThen();
        rowIsFull();
        wrongNumbers();
        bitsAreNotTheGrid();
        widthsDivide();
        widthsByTry();
        widthsOfPrimes();
        widthsByFar();
        widthsByEdges();
        edgesOfBothHands();
        edgesAreCounted();
        unitsOfTry();
        widthsWrapAndOthers();
        othersAreZeroAfterAPrice();
        widthsWrong();
        laidByHand();
        half();
        laidWrong();
        due.close();
    }

    /** A row of bits, written as a text of 0 and 1; rows is 0 for BITS, 1 for the GRID. */
    private static void write(GoldPlate x, int rows, String bits) {
        for (int i = 0; i < bits.length(); i += 20) {
            String part = bits.substring(i, Math.min(bits.length(), i + 20));
            int v = Integer.parseInt(part, 2);
            int answer = rows == 0 ? x.bits(v, part.length()) : x.grid(v, part.length());
            due.is("how many there are", answer, i + part.length());
        }
    }

    private static int append(GoldPlate x, int rows, int v, int n) {
        return rows == 0 ? x.bits(v, n) : x.grid(v, n);
    }

    private static void bitsOfANumber() {
        due.says("BITS: n 1 .. 32 of v come behind: how many there are (GRID likewise)");
        for (int rows = 0; rows < 2; rows++) {
            GoldPlate x = new GoldPlate();
            due.is("1", append(x, rows, 0, 1), 1);
            due.is("32", append(x, rows, 0, 32), 33);
            due.is("31", append(x, rows, -1, 31), 64);
            due.is("how many BITS", x.look(2), rows == 0 ? 64 : 0);
        }
    }

    /** In how many places BITS and GRID agree, laid by a width that fits. */
    private static int agree(GoldPlate x, int width) {
        return x.laid(0, width, 0);
    }

    private static void highestFirst() {
        due.says("the highest of these n first");
        for (int rows = 0; rows < 2; rows++) {
            GoldPlate x = new GoldPlate();
            append(x, rows, 0x80000001, 32);
            append(x, rows, 0xfffffff2, 4);
            append(x, rows, MOST, 31);
            append(x, rows, LEAST, 31);
            append(x, rows, 2, 2);
            write(x, 1 - rows, "1" + "0".repeat(30) + "1" + "0010" + "1".repeat(31) + "0".repeat(31) + "10");
            due.is("all agree", agree(x, 50), 100);
        }
    }

    private static void noneThen() {
        due.says("n 0: there are none then");
        for (int rows = 0; rows < 2; rows++) {
            GoldPlate x = new GoldPlate();
            due.is("none before", append(x, rows, -1, 0), 0);
            due.is("some", append(x, rows, -1, 4), 4);
            due.is("none then", append(x, rows, -1, 0), 0);
            due.is("the first again", append(x, rows, 0b1001, 4), 4);
            append(x, 1 - rows, 0b1001, 4);
            due.is("just these", agree(x, 2), 4);
        }
    }

    private static void rowIsFull() {
        due.says("NONE if there would be more than 400");
        for (int rows = 0; rows < 2; rows++) {
            GoldPlate x = new GoldPlate();
            for (int i = 1; i <= 12; i++) {
                append(x, rows, 0, 32);
                append(x, 1 - rows, 0, 32);
            }
            append(x, 1 - rows, 0, 16);
            for (int n = 17; n <= 32; n++) {
                due.is("384 and " + n, append(x, rows, -1, n), NONE);
            }
            due.is("400", append(x, rows, 0, 16), 400);
            due.is("401", append(x, rows, -1, 1), NONE);
            due.is("432", append(x, rows, -1, 32), NONE);
            due.is("nothing came", agree(x, 20), 400);
            due.is("none then", append(x, rows, 0, 0), 0);
            due.is("room again", append(x, rows, 0, 32), 32);
        }
    }

    private static void wrongNumbers() {
        due.says("NONE if one can't be");
        for (int rows = 0; rows < 2; rows++) {
            GoldPlate x = new GoldPlate();
            append(x, rows, 5, 4);
            append(x, 1 - rows, 5, 4);
            for (int wrong : new int[] {33, -1, 64, LEAST, MOST}) {
                due.is("n " + wrong, append(x, rows, -1, wrong), NONE);
            }
            due.is("nothing came", agree(x, 2), 4);
        }
    }

    private static void bitsAreNotTheGrid() {
        due.says("GRID likewise: another row of bits");
        GoldPlate x = new GoldPlate();
        x.bits(0, 8);
        due.is("GRID has none", x.grid(0, 4), 4);
        due.is("BITS", x.look(2), 8);
        x.grid(0, 0);
        due.is("BITS stay", x.look(2), 8);
        x.grid(0, 9);
        x.bits(0, 0);
        due.is("GRID stays", x.grid(0, 1), 10);
    }

    private static void widthsAre(GoldPlate x, int k, int... want) {
        due.is("how many", x.widths(k, 0), want.length);
        for (int i = 0; i < want.length; i++) {
            due.is("the " + i + "th of " + x.look(2), x.widths(k, 1 + i), want[i]);
        }
        due.is("no more", x.widths(k, 1 + want.length), NONE);
    }

    private static GoldPlate zeros(int n) {
        GoldPlate x = new GoldPlate();
        write(x, 0, "0".repeat(n));
        return x;
    }

    private static void widthsDivide() {
        due.says("WIDTHS are numbers w 2 or more that divide how many there are into 2 or more rows");
        widthsAre(new GoldPlate(), 0);
        for (int n = 1; n <= 400; n++) {
            GoldPlate x = zeros(n);
            int i = 0;
            for (int w = 2; w <= n / 2; w++) {
                if (n % w == 0) {
                    i++;
                    due.is("the " + i + "th of " + n, x.widths(0, i), w);
                }
            }
            due.is("how many of " + n, x.widths(0, 0), i);
            due.is("no more of " + n, x.widths(0, i + 1), NONE);
        }
    }

    private static void widthsByTry() {
        due.says("in order of try: E (0 without a try line), the least first, of several the lesser w");
        GoldPlate x = zeros(12);
        widthsAre(x, 0, 2, 3, 4, 6);
        Due.mind(x, 0, "try 7;");
        widthsAre(x, 0, 2, 3, 4, 6);
        Due.mind(x, 0, "try 0-width;");
        widthsAre(x, 0, 6, 4, 3, 2);
        Due.mind(x, 0, "try width;");
        widthsAre(x, 0, 2, 3, 4, 6);
        Due.mind(x, 0, "try height;");
        widthsAre(x, 0, 6, 4, 3, 2);
        Due.mind(x, 0, "try width/4;");
        widthsAre(x, 0, 2, 3, 4, 6);
        Due.mind(x, 0, "try height/4;");
        widthsAre(x, 0, 4, 6, 2, 3);
        Due.mind(x, 0, "try width*height;");
        widthsAre(x, 0, 2, 3, 4, 6);
        Due.mind(x, 0, "price width;");
        widthsAre(x, 0, 2, 3, 4, 6);
    }

    private static void widthsOfPrimes() {
        due.says("prime: 1 if both are prime");
        String text = "try 1-prime;";
        int[][] rows = {
            {4, 2}, {6, 2, 3}, {8, 2, 4}, {9, 3}, {10, 2, 5}, {12, 2, 3, 4, 6}, {49, 7}, {27, 3, 9},
            {22, 2, 11}, {26, 2, 13}, {38, 2, 19}, {62, 2, 31}, {398, 2, 199}, {391, 17, 23}, {361, 19}};
        for (int[] r : rows) {
            GoldPlate x = zeros(r[0]);
            Due.mind(x, 0, text);
            int[] want = new int[r.length - 1];
            System.arraycopy(r, 1, want, 0, want.length);
            widthsAre(x, 0, want);
        }
        // Of 50: 2 by 25 and 25 by 2 have one prime, 5 by 10 and 10 by 5, too.
        GoldPlate none = zeros(50);
        Due.mind(none, 0, "try 0-prime*99-width;");
        widthsAre(none, 0, 25, 10, 5, 2);
        for (int p : new int[] {2, 3, 5, 7, 11, 13, 17, 19}) {
            GoldPlate x = zeros(2 * p);
            Due.mind(x, 0, "try width*prime*2-width;");
            due.is("both of 2 and " + p, x.widths(0, 1), 2);
        }
        for (int n : new int[] {8, 18, 30, 42, 54, 98, 242, 338}) {
            GoldPlate x = zeros(n);
            Due.mind(x, 0, "try width*prime*2-width;");
            due.is("not both of " + n, x.widths(0, 1), n / 2);
        }
    }

    private static void widthsByFar() {
        due.says("far: WIDTH less HEIGHT as far as from 0");
        GoldPlate x = zeros(36);
        Due.mind(x, 0, "try far;");
        widthsAre(x, 0, 6, 4, 9, 3, 12, 2, 18);
        Due.mind(x, 0, "try 0-far;");
        widthsAre(x, 0, 2, 18, 3, 12, 4, 9, 6);
        GoldPlate y = zeros(400);
        Due.mind(y, 0, "try far;");
        widthsAre(y, 0, 20, 16, 25, 10, 40, 8, 50, 5, 80, 4, 100, 2, 200);
    }

    private static int unlike(String bits, int w) {
        int count = 0;
        for (int y = 0; y < bits.length() / w; y++) {
            for (int c = 0; c < w; c++) {
                char here = bits.charAt(w * y + c);
                if (c + 1 < w && here != bits.charAt(w * y + c + 1)) {
                    count++;
                }
                if (w * (y + 1) + c < bits.length() && here != bits.charAt(w * (y + 1) + c)) {
                    count++;
                }
            }
        }
        return count;
    }

    private static void widthsByEdges() {
        due.says("edges: how many neighbours (left and right, above and below) are unlike");
        String[] rows = {"1000", "0110", "110000", "101010", "100100", "011001", "10110011", "110011001100",
            "100110110011", "111111000000", "010010010010", "101101010010", "1".repeat(18) + "0".repeat(18),
            "110".repeat(12), "1000110101".repeat(4)};
        for (String bits : rows) {
            for (int times = -20; times <= 20; times++) {
                GoldPlate x = new GoldPlate();
                write(x, 0, bits);
                Due.mind(x, 0, "try edges*4" + (times < 0 ? "-" : "+") + "width*" + Math.abs(times) + ";");
                int last = LEAST;
                int lastWidth = 0;
                for (int i = 1; i <= x.widths(0, 0); i++) {
                    int w = x.widths(0, i);
                    int rank = 4 * unlike(bits, w) + times * w;
                    due.yes(bits + " by " + w, rank > last || rank == last && w > lastWidth);
                    last = rank;
                    lastWidth = w;
                }
            }
        }
    }

    private static void edgesOfBothHands() {
        due.says("HAND 0 rows from the left; HAND 1 from the right, which is alike");
        String[] rows = {"110000", "101010", "100110110011", "1000110101".repeat(4)};
        for (String bits : rows) {
            GoldPlate x = new GoldPlate();
            write(x, 0, bits);
            Due.mind(x, 0, "try edges*3-width*2;");
            Due.mind(x, 1, "try edges*3-width*2;twin 1;");
            for (int i = 0; i <= x.widths(0, 0); i++) {
                due.is(bits + ", the " + i + "th", x.widths(1, i), x.widths(0, i));
            }
        }
    }

    /** The WIDTH whose unit is nearest to a number comes first: so each WIDTH's unit shows, not just their order. */
    private static void unitsAre(String bits, String unit, int... values) {
        GoldPlate x = new GoldPlate();
        write(x, 0, bits);
        int[] widths = new int[values.length];
        int count = 0;
        for (int w = 2; w <= bits.length() / 2; w++) {
            if (bits.length() % w == 0) {
                widths[count] = w;
                count++;
            }
        }
        due.is("WIDTHS of " + bits, count, values.length);
        for (int v = 0; v <= 40; v++) {
            Due.mind(x, 0, "try " + unit + "*" + unit + "-2*" + v + "*" + unit + "+" + v + "*" + v + ";");
            int nearest = 0;
            for (int i = 1; i < count; i++) {
                nearest = Math.abs(values[i] - v) < Math.abs(values[nearest] - v) ? i : nearest;
            }
            due.is(unit + " nearest to " + v + " of " + bits, x.widths(0, 1), widths[nearest]);
        }
    }

    private static void edgesAreCounted() {
        due.says("edges: how many neighbours are unlike: none, one corner, all");
        GoldPlate none = zeros(12);
        Due.mind(none, 0, "try 0-edges*width;");
        widthsAre(none, 0, 2, 3, 4, 6);
        // The last bit has one to the left and one above, whatever the WIDTH is.
        GoldPlate last = new GoldPlate();
        write(last, 0, "000000000001");
        Due.mind(last, 0, "try edges*width-width*2;");
        widthsAre(last, 0, 2, 3, 4, 6);
        Due.mind(last, 0, "try width*2-edges*width;");
        widthsAre(last, 0, 2, 3, 4, 6);
        GoldPlate first = new GoldPlate();
        write(first, 0, "100000000000");
        Due.mind(first, 0, "try edges*width-width*2;");
        widthsAre(first, 0, 2, 3, 4, 6);
        Due.mind(first, 0, "try width*2-edges*width;");
        widthsAre(first, 0, 2, 3, 4, 6);
    }

    private static void unitsOfTry() {
        due.says("width, height, prime, edges, far: each by its own number");
        unitsAre("0".repeat(12), "width", 2, 3, 4, 6);
        unitsAre("0".repeat(12), "height", 6, 4, 3, 2);
        unitsAre("0".repeat(12), "far", 4, 1, 1, 4);
        unitsAre("0".repeat(36), "far", 16, 9, 5, 0, 5, 9, 16);
        unitsAre("0".repeat(6), "prime", 1, 1);
        unitsAre("0".repeat(12), "prime", 0, 0, 0, 0);
        // By 2: rows 11, 00, 10, 01; by 4: rows 1100 and 1001.
        unitsAre("11001001", "edges", 2 + 2 + 1 + 2, 1 + 2 + 2);
        GoldPlate x = zeros(12);
        Due.mind(x, 0, "try far*width;");
        widthsAre(x, 0, 3, 4, 2, 6);
        Due.mind(x, 0, "try 9-prime*width;");
        widthsAre(x, 0, 2, 3, 4, 6);
    }

    private static void othersAreZeroAfterAPrice() {
        due.says("(the others 0): whatever PRICES were asked for before");
        GoldPlate x = zeros(12);
        x.mark(6, 1, 99, 999, 0);
        x.mark(5, 1, 98, 999, 0);
        x.tell(1, 2, 2);
        x.put(0);
        x.put(1);
        x.hard(5, 99);
        x.year(8);
        Due.mind(x, 1, "price 1;");
        for (String unit : new String[] {"kind", "cost", "left", "worn", "other", "place", "twice", "bare"}) {
            Due.mind(x, 0, "try 0-" + unit + "*width;");
            due.is("a PRICE", x.cheapest(1, 0), 2);
            widthsAre(x, 0, 2, 3, 4, 6);
            due.is("READINGS", x.readings(1, 1), 0);
            due.is(unit + ": the first", x.widths(0, 1), 2);
        }
    }

    private static void widthsWrapAndOthers() {
        due.says("E of width, height, prime, edges, far (the others 0)");
        GoldPlate x = zeros(12);
        x.mark(6, 1, 99, 999, 0);
        x.put(0);
        for (String unit : new String[] {"kind", "cost", "left", "worn", "other", "place", "twice", "bare"}) {
            Due.mind(x, 0, "try 0-" + unit + "*width*9-width;");
            widthsAre(x, 0, 6, 4, 3, 2);
            Due.mind(x, 0, "try width+" + unit + "*0-" + unit + "*width*9;");
            widthsAre(x, 0, 2, 3, 4, 6);
        }
        due.says("Ints, which wrap: ranks from the least int to the most");
        // 8192 * 8192 * 8 * width: 2 is 2 to the 30th, 3 is 3 * that / 2, 4 is the least int, 6 is -2 to the 30th.
        Due.mind(x, 0, "try 8192*8192*8*width;");
        widthsAre(x, 0, 4, 6, 2, 3);
        Due.mind(x, 0, "try 8192*8192*8*width-1;");
        widthsAre(x, 0, 6, 2, 3, 4);
    }

    private static void widthsWrong() {
        due.says("1 + i the i-th (from 0) that it tries. NONE if one can't be, there is none such, or another what");
        GoldPlate x = zeros(4);
        due.is("how many", x.widths(5, 0), 1);
        due.is("the first", x.widths(5, 1), 2);
        for (int wrong : new int[] {2, 3, 400, -1, LEAST, MOST}) {
            due.is("what " + wrong, x.widths(0, wrong), NONE);
        }
        for (int wrong : new int[] {6, -1, LEAST, MOST}) {
            due.is("MIND " + wrong, x.widths(wrong, 0), NONE);
        }
        x.bits(0, 0);
        due.is("no BITS: how many", x.widths(0, 0), 0);
        due.is("no BITS: the first", x.widths(0, 1), NONE);
    }

    private static void laidByHand() {
        due.says("LAID by w: that of place w y + x (HAND 0), w y + w - 1 - x (HAND 1; 0 without a twin line)");
        GoldPlate x = new GoldPlate();
        Due.mind(x, 1, "twin 0;");
        Due.mind(x, 2, "twin 1;");
        write(x, 0, "110100");
        write(x, 1, "110100");
        due.is("as it is", x.laid(0, 3, 0), 6);
        due.is("twin 0", x.laid(1, 3, 0), 6);
        due.is("twin 1 by 3", x.laid(2, 3, 0), 2);
        due.is("twin 1 by 2", x.laid(2, 2, 0), 4);
        x.grid(0, 0);
        write(x, 1, "011001");
        due.is("from the right by 3", x.laid(2, 3, 0), 6);
        due.is("from the left by 3", x.laid(0, 3, 0), 2);
        x.grid(0, 0);
        write(x, 1, "001011");
        due.is("none agrees", x.laid(0, 3, 0), 0);
    }

    private static void half() {
        due.says("HALF: whether the bit LAID at row y, column x is that of the GRID's place HEIGHT x + y, for all");
        GoldPlate x = new GoldPlate();
        Due.mind(x, 2, "twin 1;");
        write(x, 0, "110100");
        // By 3: rows 110 and 100, so columns 11, 10, 00.
        write(x, 1, "111000");
        due.is("by 3", x.laid(0, 3, 1), 1);
        due.is("by 2", x.laid(0, 2, 1), 0);
        due.is("by 3 from the right", x.laid(2, 3, 1), 0);
        for (int i = 0; i < 6; i++) {
            x.grid(0, 0);
            x.grid(0b111000 ^ 1 << i, 6);
            due.is("all but one", x.laid(0, 3, 1), 0);
        }
        x.grid(0, 0);
        // By 3 from the right: rows 011 and 001.
        write(x, 1, "001011");
        due.is("from the right", x.laid(2, 3, 1), 1);
        due.is("from the left", x.laid(0, 3, 1), 0);
        x.grid(0, 0);
        // By 2: rows 11, 01, 00, so columns 100 and 110.
        write(x, 1, "100110");
        due.is("by 2", x.laid(0, 2, 1), 1);
        x.bits(0, 0);
        x.grid(0, 0);
        write(x, 0, "0".repeat(400));
        write(x, 1, "0".repeat(400));
        due.is("400 bits", x.laid(0, 200, 1), 1);
        due.is("400 bits", x.laid(2, 2, 1), 1);
        due.is("400 agree", x.laid(2, 200, 0), 400);
    }

    private static void laidWrong() {
        due.says("NONE if one can't be (no such WIDTH; another number of bits), or another what");
        GoldPlate x = new GoldPlate();
        due.is("no bits at all", x.laid(0, 2, 0), NONE);
        due.is("no bits at all, by 0", x.laid(0, 0, 0), NONE);
        write(x, 0, "000000");
        due.is("no GRID", x.laid(0, 2, 0), NONE);
        write(x, 1, "00000");
        due.is("one fewer", x.laid(0, 2, 0), NONE);
        x.grid(0, 1);
        for (int what = 0; what < 2; what++) {
            for (int wrong : new int[] {1, 4, 5, 6, 12, 0, -1, -2, LEAST, MOST}) {
                due.is("WIDTH " + wrong, x.laid(0, wrong, what), NONE);
            }
            for (int wrong : new int[] {6, -1, LEAST, MOST}) {
                due.is("MIND " + wrong, x.laid(wrong, 2, what), NONE);
            }
            due.yes("both can be", x.laid(5, 2, what) != NONE && x.laid(0, 3, what) != NONE);
        }
        for (int wrong : new int[] {2, -1, LEAST, MOST}) {
            due.is("what " + wrong, x.laid(0, 2, wrong), NONE);
        }
        x.grid(0, 1);
        due.is("one more", x.laid(0, 2, 0), NONE);
        due.is("one more", x.laid(0, 2, 1), NONE);
        x.bits(0, 1);
        due.is("seven is prime", x.laid(0, 7, 0), NONE);
    }
}
