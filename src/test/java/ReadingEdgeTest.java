/** Sentences of the document about READINGS, THE CHEAPEST and ALONE that name an edge, each with its own test. */
public final class ReadingEdgeTest {
    private static final int NONE = GoldPlate.NONE;
    private static final int SPENT = GoldPlate.SPENT;
    private static final int LEAST = Integer.MIN_VALUE;
    private static final int MOST = Integer.MAX_VALUE;
    private static final Due due = new Due();

    public static void main(String[] args) {
        canSee();
        needsAheadAndRight();
        needsOfSeveral();
        knowsOfAMark();
        othersNeedNothing();
        firstPriceLine();
        sixteenPriceLines();
        priceOfEachUnit();
        othersAreZeroAfterATry();
        leftAndWorn();
        twice();
        twiceOfBare();
        twiceAndRight();
        twiceInReadings();
        priceOfAReading();
        upToAPrice();
        readingsSpent();
        readingsOneAfterAnother();
        readingsWrong();
        ofSeveralTheFirst();
        moreThanTen();
        parts();
        falls();
        cheapestWhats();
        alone();
        aloneWrong();
        due.close();
    }

    /** An object with so many MARKS of kind 0, each with its own THING, cost 1, DEPTH 100, all in THE MESSAGE. */
    private static GoldPlate row(int marks) {
        GoldPlate x = new GoldPlate();
        for (int i = 0; i < marks; i++) {
            x.mark(0, i, 1, 100, 0);
            x.put(i);
        }
        return x;
    }

    private static void takings(GoldPlate x, int k, int... want) {
        for (int i = 0; i < want.length; i++) {
            due.is("TAKING at place " + i, x.cheapest(k, 10 + i), want[i]);
        }
    }

    private static void canSee() {
        due.says("A MIND CAN SEE a MARK, if it has all its SENSES, and it is not GONE");
        for (int needed = 0; needed < 16; needed++) {
            GoldPlate x = new GoldPlate();
            x.mark(0, 0, 1, 2, needed);
            x.tell(0, 2, 1);
            x.put(0);
            Due.mind(x, 0, "sense 1;sense 3;");
            Due.mind(x, 1, "sense 0;sense 1;sense 2;sense 3;");
            due.is("SENSES " + needed + " by 1 and 3", x.readings(0, 0), (needed & 5) == 0 ? 3 : 1);
            due.is("SENSES " + needed + " by all", x.readings(1, 0), 3);
            due.is("SENSES " + needed + " by none", x.readings(2, 0), needed == 0 ? 3 : 1);
            x.hard(0, 1);
            x.year(1);
            due.is("1 is LEFT", x.readings(1, 0), 3);
            x.year(2);
            due.is("0 is LEFT", x.readings(1, 0), 1);
            x.year(3);
            due.is("-1 is LEFT", x.readings(1, 0), 1);
        }
    }

    private static void needsAheadAndRight() {
        due.says("1 RIGHT: all its NEEDS are TAKEN RIGHT and stand ahead of it");
        GoldPlate x = row(2);
        Due.mind(x, 0, "price 9 when bare=1;price 5 when other=1;price 1;");
        x.tell(1, 0, 1);
        takings(x, 0, 1, 1);
        x.put(NONE);
        x.put(1);
        due.is("it is not in THE MESSAGE", x.readings(0, 9999), 1);
        x.put(0);
        due.is("it stands behind", x.readings(0, 9999), 2);
        takings(x, 0, 0, 1);
        GoldPlate y = row(3);
        y.tell(1, 0, 1);
        y.tell(2, 0, 2);
        due.is("each needs the one ahead", y.readings(0, 0), 4);
        y.tell(0, 2, 9);
        due.is("an OTHER is not RIGHT", y.readings(0, 0), 5);
        y.hard(0, 99);
        y.year(2);
        due.is("GONE all", y.readings(0, 0), 1);
    }

    private static void needsOfSeveral() {
        due.says("all its NEEDS");
        GoldPlate x = row(4);
        x.tell(3, 0, 7);
        due.is("three of three: once in eight", x.readings(0, 0), 9);
        x.tell(3, 0, 5);
        due.is("two of three: twice in eight", x.readings(0, 0), 10);
        x.put(NONE);
        x.put(2);
        x.put(3);
        x.put(0);
        due.is("one ahead, one behind", x.readings(0, 0), 4);
    }

    private static void knowsOfAMark() {
        due.says("all its KNOWS are FACTS that the MIND has");
        GoldPlate x = row(1);
        x.tell(0, 1, 129);
        Due.mind(x, 0, "know 0;");
        Due.mind(x, 1, "know 7;know 0;know 3;");
        due.is("one of two", x.readings(0, 0), 1);
        due.is("both and more", x.readings(1, 0), 2);
        due.is("none", x.readings(2, 0), 1);
        x.tell(0, 1, 0);
        due.is("none is asked", x.readings(2, 0), 2);
    }

    private static void othersNeedNothing() {
        due.says("2, 3: its first, second OTHER, if it has one and can be seen");
        GoldPlate x = row(2);
        x.put(NONE);
        x.put(1);
        x.tell(1, 0, 1);
        x.tell(1, 1, 255);
        due.is("not read alone", x.readings(0, 0), 1);
        x.tell(1, 2, 5);
        due.is("first OTHER", x.readings(0, 0), 2);
        x.tell(1, 3, 5);
        due.is("second OTHER", x.readings(0, 0), 3);
        Due.mind(x, 0, "price 9 when bare=1;price 1;");
        takings(x, 0, 2);
    }

    private static void firstPriceLine() {
        due.says("E of the first price line whose B is so (or that has none); 0 without one");
        GoldPlate x = row(1);
        String[][] texts = {
            {"", "0"}, {"sense 1;try 5;", "0"}, {"price 5;", "5"}, {"price 5;price 3;", "5"},
            {"price 5 when 1=2;", "0"}, {"price 5 when 1=2;price 3;", "3"}, {"price 5 when 1=1;price 3;", "5"},
            {"price 5;price 3 when 1=1;", "5"}, {"price 5 when 1=2;price 4 when 1=2;price 3 when 1=1;", "3"},
            {"price 1 when 1=2;".repeat(15) + "price 8;", "8"}, {"price 0;price 3;", "0"},
            {"try 9;price 2;twin 1;price 6;", "2"}};
        for (String[] t : texts) {
            due.yes(t[0], Due.mind(x, 0, t[0]) >= 0);
            due.is(t[0], x.cheapest(0, 0), Integer.parseInt(t[1]));
        }
    }

    private static void sixteenPriceLines() {
        due.says("0 without one: sixteen price lines, of which the last, or none, is so");
        GoldPlate x = row(1);
        due.is("lines", Due.mind(x, 0, "price 7 when 1=2;".repeat(16)), 16);
        due.is("none is so", x.cheapest(0, 0), 0);
        due.is("both READINGS", x.readings(0, 0), 2);
        due.is("lines", Due.mind(x, 0, "price 7 when 1=2;".repeat(15) + "price 6 when 1=1;"), 16);
        due.is("the last is so", x.cheapest(0, 0), 6);
    }

    /** The price of one TAKING at the last place: all others cost 999. */
    private static int priceOf(GoldPlate x, int size, String claim, String price) {
        Due.mind(x, 0, "price 0 when not place=" + (size - 1) + ";price " + price + " when " + claim + ";price 999;");
        return x.cheapest(0, 0);
    }

    private static void priceOfEachUnit() {
        due.says("kind, cost of the MARK, other 1 for 2, 3, place (from 0), bare: 1 for 0, else 0; the others are 0");
        GoldPlate x = row(9);
        x.mark(6, 9, 99, 999, 0);
        x.tell(9, 2, 14);
        x.tell(9, 3, 15);
        x.put(9);
        String[] claims = {"bare=1", "bare=0 and other=0", "other=1"};
        for (int i = 0; i < 3; i++) {
            due.is("kind", priceOf(x, 10, claims[i], "kind"), 6);
            due.is("cost", priceOf(x, 10, claims[i], "cost"), 99);
            due.is("place", priceOf(x, 10, claims[i], "place"), 9);
            due.is("left", priceOf(x, 10, claims[i], "left-1"), 998);
            due.is("worn", priceOf(x, 10, claims[i], "worn+5"), 5);
            due.is("twice", priceOf(x, 10, claims[i], "twice+5"), 5);
            due.is("bare", priceOf(x, 10, claims[i], "bare*5+1"), i == 0 ? 6 : 1);
            due.is("other", priceOf(x, 10, claims[i], "other*5+1"), i == 2 ? 6 : 1);
            due.is("the others", priceOf(x, 10, claims[i], "7+width+height+prime+edges+far"), 7);
            due.is("its TAKING", x.cheapest(0, 19), i);
        }
        x.tell(9, 2, 15);
        x.tell(9, 3, 14);
        Due.mind(x, 0, "price 0 when not place=9;price 7+other when other=1;price 999;");
        due.is("both OTHERS cost alike", x.cheapest(0, 0), 8);
        due.is("of both the first", x.cheapest(0, 19), 2);
        due.says("place (from 0) in THE MESSAGE");
        x.put(NONE);
        x.put(9);
        Due.mind(x, 0, "price place+3;");
        due.is("first", x.cheapest(0, 0), 3);
    }

    private static void othersAreZeroAfterATry() {
        due.says("The others are 0: whatever WIDTHS were tried before");
        GoldPlate x = row(1);
        // By 3 and by 5, which are prime, with edges.
        x.bits(0b101100111000110, 15);
        Due.mind(x, 1, "try width+height+prime+edges+far;");
        for (String unit : new String[] {"width", "height", "prime", "edges", "far"}) {
            Due.mind(x, 0, "price 7+" + unit + "*9;");
            due.is("two WIDTHS", x.widths(1, 0), 2);
            due.is(unit + ", by the PRICE", x.cheapest(0, 0), 7);
            due.is("the last WIDTH", x.widths(1, 2) == NONE ? 1 : 0, 0);
            due.is(unit + ", up to 6", x.readings(0, 6), 0);
            due.is(unit + ", up to 7", x.readings(0, 7), 2);
        }
    }

    private static void leftAndWorn() {
        due.says("left (LEFT, 0 at least), worn 1 if it is WORN");
        GoldPlate x = new GoldPlate();
        x.mark(0, 0, 1, 10, 0);
        x.put(0);
        x.hard(0, 1);
        Due.mind(x, 0, "price left*10+worn+1;");
        int[][] due2 = {{0, 101}, {5, 51}, {6, 42}, {9, 12}, {10, 1}, {11, 1}, {999, 1}};
        for (int[] d : due2) {
            x.year(d[0]);
            due.is("YEAR " + d[0], x.cheapest(0, 0), d[1]);
        }
    }

    private static void twice() {
        due.says("twice: 1 if a MARK ahead of it was TAKEN for the same THING (its own for RIGHT, the OTHER's for 2, 3)");
        GoldPlate x = new GoldPlate();
        x.mark(0, 0, 1, 1, 0);
        x.mark(0, 0, 1, 1, 0);
        x.put(0);
        x.put(1);
        Due.mind(x, 0, "price 0 when twice=1;price 9 when bare=1;price 5;");
        due.is("its own", x.cheapest(0, 0), 5);
        takings(x, 0, 1, 1);
        Due.mind(x, 0, "price 9 when twice=1;price 7 when bare=1;price 0;");
        due.is("once ahead, not behind", x.cheapest(0, 0), 7);
        takings(x, 0, 0, 1);
        GoldPlate y = new GoldPlate();
        y.mark(0, 3, 1, 1, 0);
        y.mark(0, 4, 1, 1, 0);
        y.mark(0, 5, 1, 1, 0);
        y.tell(0, 2, 15);
        y.tell(2, 2, 14);
        y.tell(2, 3, 15);
        y.put(0);
        y.put(1);
        y.put(2);
        Due.mind(y, 0, "price 0 when twice=1;price 9 when bare=1;price 5;");
        due.is("an OTHER's, far ahead", y.cheapest(0, 0), 10);
        takings(y, 0, 2, 1, 3);
        y.tell(0, 2, 5);
        due.is("its own, as an OTHER ahead", y.cheapest(0, 0), 10);
        takings(y, 0, 2, 1, 1);
        y.tell(0, 2, 9);
        y.tell(2, 3, 4);
        takings(y, 0, 1, 1, 3);
        y.tell(2, 3, 3);
        takings(y, 0, 1, 1, 3);
        y.tell(2, 3, 9);
        takings(y, 0, 2, 1, 3);
        due.says("its own for RIGHT: what it is not TAKEN for does not count");
        y.tell(2, 3, 8);
        due.is("none is twice", y.cheapest(0, 0), 15);
    }

    private static void twiceOfBare() {
        due.says("bare: 1 for 0, else 0 (then twice, other 0)");
        GoldPlate x = new GoldPlate();
        x.mark(0, 0, 1, 1, 0);
        x.mark(0, 0, 1, 1, 0);
        x.tell(1, 2, 3);
        x.put(0);
        x.put(1);
        Due.mind(x, 0, "price 99 when place=0 and bare=1;price 0 when place=0;price twice*7+other*5 when bare=1;price 99;");
        due.is("not read behind the same THING", x.cheapest(0, 0), 0);
        takings(x, 0, 1, 0);
        due.says("0 not read: it is TAKEN for nothing");
        Due.mind(x, 0, "price 50 when place=0 and bare=0;price 1 when place=0;price 99 when bare=1;price 30+twice-other;");
        due.is("the one ahead is not read", x.cheapest(0, 0), 1 + 29);
        x.tell(1, 2, 2);
        Due.mind(x, 0, "price 50 when place=0 and bare=0;price 1 when place=0;price 99 when bare=1;price 30+twice*5+other;");
        due.is("not twice", x.cheapest(0, 0), 31);
        takings(x, 0, 0, 1);
    }

    private static void twiceAndRight() {
        due.says("other 1 for 2, 3: 0 for RIGHT, twice or not");
        GoldPlate x = new GoldPlate();
        x.mark(0, 3, 1, 1, 0);
        x.mark(0, 3, 1, 1, 0);
        x.put(0);
        x.put(1);
        Due.mind(x, 0, "price 99 when bare=1;price 5+other*50 when twice=1;price 1;");
        due.is("RIGHT and twice", x.cheapest(0, 0), 6);
        takings(x, 0, 1, 1);
        x.tell(1, 2, 4);
        x.tell(0, 2, 4);
        Due.mind(x, 0, "price 99 when bare=1;price 9 when twice=0 and place=1;price 5-other*3 when twice=1;price 1;");
        due.is("an OTHER and twice", x.cheapest(0, 0), 3);
        takings(x, 0, 2, 2);
    }

    private static void twiceInReadings() {
        due.says("twice, in READINGS up to a PRICE: nothing stands ahead of the first");
        for (int thing = 0; thing < 16; thing++) {
            GoldPlate x = new GoldPlate();
            x.mark(0, thing, 1, 1, 0);
            x.mark(0, thing, 1, 1, 0);
            x.put(0);
            Due.mind(x, 0, "price twice*9;");
            due.is("THING " + thing + " at the first place", x.readings(0, 8), 2);
            x.put(1);
            due.is("THING " + thing + " up to 8: not both RIGHT", x.readings(0, 8), 3);
            due.is("THING " + thing + " up to 9", x.readings(0, 9), 4);
        }
    }

    private static void priceOfAReading() {
        due.says("The PRICE of a READING: all of these added");
        GoldPlate x = row(10);
        Due.mind(x, 0, "price 999;");
        due.is("ten of 999", x.cheapest(0, 0), 9990);
        Due.mind(x, 0, "price 1000-place*999;");
        due.is("each is cut by itself", x.cheapest(0, 0), 1000);
        Due.mind(x, 0, "price 0-5 when place<9;price 7;");
        due.is("none is below 0", x.cheapest(0, 0), 7);
    }

    private static void upToAPrice() {
        due.says("READINGS up to a told PRICE");
        GoldPlate x = row(1);
        Due.mind(x, 0, "price 5 when bare=1;price 8;");
        int[][] counts = {{0, 0}, {4, 0}, {5, 1}, {7, 1}, {8, 2}, {9999, 2}};
        for (int[] c : counts) {
            due.is("up to " + c[0], x.readings(0, c[0]), c[1]);
        }
        x.put(NONE);
        due.is("an empty message has one, for 0", x.readings(0, 0), 1);
        GoldPlate y = row(10);
        Due.mind(y, 0, "price 999;");
        due.is("up to 9989", y.readings(0, 9989), 0);
        due.is("up to 9990", y.readings(0, 9990), 1024);
        due.is("up to 9999", y.readings(0, 9999), 1024);
    }

    private static void readingsSpent() {
        due.says("SPENT, if there are more than 2000");
        GoldPlate x = row(10);
        // A MARK that another needs, which has an OTHER: 5 READINGS of the two; 5 * 5 * 5 * 16 are 2000.
        for (int i = 0; i < 6; i += 2) {
            x.tell(i + 1, 0, 1 << i);
            x.tell(i + 1, 2, 15);
        }
        Due.mind(x, 0, "price other*9 when place=9;price 1-bare;");
        due.is("2000", x.readings(0, 9), 2000);
        x.tell(9, 2, 15);
        due.is("2000 and, for 9, one with the OTHER at place 9", x.readings(0, 9), SPENT);
        // All nine ahead are read in 2 * 2 * 2 ways; at place 9 there are two for nothing.
        due.is("up to 8 there are fewer", x.readings(0, 8), 2000 - 2 * 2 * 2 * 2);
        due.is("THE CHEAPEST is there for all that", x.cheapest(0, 0), 0);
        GoldPlate y = row(10);
        for (int i = 0; i < 10; i++) {
            y.tell(i, 2, 14);
            y.tell(i, 3, 15);
        }
        due.is("4 to the 10th", y.readings(0, 0), SPENT);
        due.is("THE CHEAPEST of a million", y.cheapest(0, 0), 0);
        Due.mind(y, 0, "price 9 when bare=1;price 8 when other=1;price 7;");
        due.is("just one", y.readings(0, 70), 1);
        due.is("none", y.readings(0, 69), 0);
        due.is("one and twenty", y.readings(0, 71), 21);
        due.is("its PRICE", y.cheapest(0, 0), 70);
    }

    private static void readingsOneAfterAnother() {
        due.says("READINGS and THE CHEAPEST of a MIND: whatever another MIND or another message was asked before");
        for (int size = 0; size <= 10; size++) {
            GoldPlate x = row(10);
            Due.mind(x, 0, "price 999;");
            Due.mind(x, 1, "price bare*2;");
            due.is("ten, dear", x.readings(0, 9989), 0);
            due.is("ten, dear", x.cheapest(0, 0), 9990);
            x.put(NONE);
            for (int i = 0; i < size; i++) {
                x.put(i);
            }
            due.is("dear again", x.cheapest(0, 0), 999 * size);
            due.is("cheap: just one for nothing", x.readings(1, 0), 1);
            due.is("cheap: one of them bare", x.readings(1, 2), 1 + size);
            due.is("dear again", x.readings(0, 9999), 1 << size);
            due.is("cheap", x.cheapest(1, 0), 0);
            due.is("all RIGHT", x.cheapest(1, 1), NONE);
            for (int place = 0; place < size; place++) {
                // One place is dear for one MIND, and for nothing for the other.
                Due.mind(x, 2, "price 999 when place=" + place + ";price 0;");
                Due.mind(x, 3, "price 5*bare when place=" + place + ";price 0;");
                due.is("place " + place + " dear", x.readings(2, 998), 0);
                due.is("place " + place + " cheap", x.cheapest(3, 10 + place), 1);
                due.is("place " + place + " dear", x.cheapest(2, 0), 999);
                due.is("place " + place + " cheap", x.readings(3, 0), 1 << (size - 1));
            }
        }
    }

    private static void readingsWrong() {
        due.says("a PRICE (0 .. 9999); NONE if one can't be");
        GoldPlate x = row(1);
        due.is("0", x.readings(0, 0), 2);
        due.is("9999", x.readings(5, 9999), 2);
        for (int wrong : new int[] {-1, 10000, LEAST, MOST}) {
            due.is("price " + wrong, x.readings(0, wrong), NONE);
        }
        for (int wrong : new int[] {-1, 6, LEAST, MOST}) {
            due.is("MIND " + wrong, x.readings(wrong, 0), NONE);
        }
    }

    private static void ofSeveralTheFirst() {
        due.says("in order by TAKINGS, with those of the first one first; THE CHEAPEST: of several the first");
        GoldPlate x = row(3);
        for (int i = 0; i < 3; i++) {
            x.tell(i, 2, 14);
            x.tell(i, 3, 15);
        }
        takings(x, 0, 0, 0, 0);
        Due.mind(x, 0, "price 5 when bare=1;price 3;");
        takings(x, 0, 1, 1, 1);
        Due.mind(x, 0, "price 5 when other=0;price 3 when twice=0;price 5;");
        // Two of three are OTHERS: with the first one not read the others come as first and second OTHER.
        takings(x, 0, 0, 2, 3);
        Due.mind(x, 0, "price 5 when other=0;price 3;");
        takings(x, 0, 2, 2, 2);
        GoldPlate y = row(2);
        Due.mind(y, 0, "price 5 when place=0 and bare=1;price 3 when place=0;price 4 when bare=1;price 6;");
        takings(y, 0, 1, 0);
        // 0 1 and 1 0 cost alike: the first MARK's TAKING comes first.
        y.tell(1, 2, 9);
        Due.mind(y, 0, "price 1 when place=0 and bare=0;price 1 when place=1 and bare=0;price 1 when place=1;price 1;");
        takings(y, 0, 0, 0);
        y.tell(0, 2, 9);
        Due.mind(y, 0, "price 3 when bare=1;price 1 when other=1 and twice=0;price 2;");
        takings(y, 0, 1, 2);
    }

    private static void moreThanTen() {
        due.says("for messages of more than ten MARKS there is none; READINGS neither");
        GoldPlate x = row(10);
        due.is("ten: readings", x.readings(0, 0), 1024);
        due.is("ten: PRICE", x.cheapest(0, 0), 0);
        due.is("ten: PARTS", x.cheapest(0, 1), 0);
        due.is("ten: the last TAKING", x.cheapest(0, 19), 0);
        x.mark(0, 15, 1, 0, 0);
        x.put(10);
        due.is("eleven: readings", x.readings(0, 9999), NONE);
        for (int what = 0; what < 22; what++) {
            due.is("eleven: what " + what, x.cheapest(0, what), NONE);
        }
        for (int i = 11; i < 16; i++) {
            x.mark(0, 15, 1, 0, 0);
            x.put(i);
        }
        due.is("sixteen: readings", x.readings(0, 0), NONE);
        due.is("sixteen: PRICE", x.cheapest(0, 0), NONE);
        x.put(NONE);
        due.is("none: readings", x.readings(0, 0), 1);
        due.is("none: PRICE", x.cheapest(0, 0), 0);
    }

    private static void parts() {
        due.says("PARTS: the first MARK of THE MESSAGE (by place) that is not RIGHT in it; NONE: nowhere");
        GoldPlate x = row(4);
        int[] order = {3, 1, 2, 0};
        x.put(NONE);
        for (int m : order) {
            x.put(m);
        }
        Due.mind(x, 0, "price bare;");
        due.is("all RIGHT", x.cheapest(0, 1), NONE);
        due.is("FALLS 0 without PARTS", x.cheapest(0, 2), 0);
        for (int from = 0; from < 4; from++) {
            Due.mind(x, 0, "price bare when place<" + from + ";price 1-bare;");
            due.is("from place " + from, x.cheapest(0, 1), order[from]);
        }
        x.tell(1, 2, 9);
        Due.mind(x, 0, "price bare when not place=1;price 1-other;");
        due.is("an OTHER is not RIGHT", x.cheapest(0, 1), 1);
        x.put(NONE);
        due.is("an empty message", x.cheapest(0, 1), NONE);
        due.is("an empty message's FALLS", x.cheapest(0, 2), 0);
    }

    private static void falls() {
        due.says("FALLS: how many MARKS behind it that need it (by NEEDS, on and on) are not RIGHT either");
        GoldPlate x = row(6);
        Due.mind(x, 0, "price 9 when place=1 and bare=0;price bare;");
        due.is("PARTS", x.cheapest(0, 1), 1);
        due.is("none needs it", x.cheapest(0, 2), 0);
        x.tell(2, 0, 2);
        due.is("one", x.cheapest(0, 2), 1);
        x.tell(3, 0, 4);
        due.is("on and on", x.cheapest(0, 2), 2);
        x.tell(4, 0, 8);
        x.tell(5, 0, 16);
        due.is("all behind it", x.cheapest(0, 2), 4);
        x.tell(5, 0, 1);
        due.is("what needs just one that is RIGHT", x.cheapest(0, 2), 3);
        x.tell(4, 2, 15);
        Due.mind(x, 0, "price 9 when place=1 and bare=0;price 2*bare-other;");
        due.is("an OTHER is not RIGHT either", x.cheapest(0, 14), 2);
        due.is("it falls", x.cheapest(0, 2), 3);
        due.says("need it (by NEEDS, on and on)");
        GoldPlate y = row(4);
        Due.mind(y, 0, "price 1-bare;");
        y.tell(1, 0, 1);
        y.tell(3, 0, 4);
        due.is("not RIGHT, but it needs another", y.cheapest(0, 2), 1);
        y.tell(3, 0, 6);
        due.is("one of two is enough", y.cheapest(0, 2), 2);
        y.put(NONE);
        y.put(0);
        y.put(3);
        due.is("by MARKS that are not in THE MESSAGE", y.cheapest(0, 2), 1);
    }

    private static void cheapestWhats() {
        due.says("10 + i the TAKING of the MARK at place i. NONE if there is none such, or another what");
        GoldPlate x = row(3);
        Due.mind(x, 0, "price bare;");
        due.is("place 0", x.cheapest(0, 10), 1);
        due.is("place 2", x.cheapest(0, 12), 1);
        for (int wrong : new int[] {13, 19, 20, 3, 4, 9, -1, LEAST, MOST}) {
            due.is("what " + wrong, x.cheapest(0, wrong), NONE);
        }
        for (int wrong : new int[] {-1, 6, LEAST, MOST}) {
            due.is("MIND " + wrong, x.cheapest(wrong, 0), NONE);
            due.is("MIND " + wrong, x.cheapest(wrong, 2), NONE);
        }
    }

    private static void alone() {
        due.says("ALONE: it and all that it needs, on and on, can be seen, and all KNOWS of these are had");
        for (int broken = 0; broken < 5; broken++) {
            GoldPlate x = new GoldPlate();
            for (int i = 0; i < 5; i++) {
                x.mark(i, 0, 1, 5, 0);
            }
            x.tell(1, 0, 1);
            x.tell(2, 0, 2);
            x.tell(4, 0, 4);
            for (int m = 0; m < 5; m++) {
                due.is("all is well", x.alone(0, m), 1);
            }
            // 4 needs 2, 2 needs 1, 1 needs 0; 3 is by itself.
            int[] reach = {0b10111, 0b10110, 0b10100, 0b01000, 0b10000};
            x.tell(broken, 1, 128);
            for (int m = 0; m < 5; m++) {
                due.is("a FACT of " + broken + " for " + m, x.alone(0, m), 1 - (reach[broken] >> m & 1));
            }
            Due.mind(x, 1, "know 7;");
            due.is("the FACT is had", x.alone(1, 4), 1);
            x.tell(broken, 1, 0);
            x.hard(broken, 5);
            x.year(1);
            for (int m = 0; m < 5; m++) {
                due.is(broken + " is GONE for " + m, x.alone(0, m), 1 - (reach[broken] >> m & 1));
            }
        }
        due.says("ALONE: if all MARKS stood in a row by number");
        GoldPlate y = new GoldPlate();
        for (int i = 0; i < 16; i++) {
            y.mark(0, 0, 1, 5, i == 0 ? 2 : 0);
            y.tell(i, 0, i == 0 ? 0 : 1 << (i - 1));
        }
        Due.mind(y, 0, "sense 1;");
        due.is("sixteen, on and on, not in THE MESSAGE", y.alone(0, 15), 1);
        due.is("without the sense of the first", y.alone(1, 15), 0);
        y.put(15);
        y.put(0);
        due.is("whatever THE MESSAGE is", y.alone(0, 15), 1);
    }

    private static void aloneWrong() {
        due.says("1 or 0; NONE if one can't be");
        GoldPlate x = new GoldPlate();
        due.is("no MARK", x.alone(0, 0), NONE);
        x.mark(0, 0, 1, 1, 0);
        due.is("now", x.alone(5, 0), 1);
        for (int wrong : new int[] {1, 16, -1, LEAST, MOST}) {
            due.is("MARK " + wrong, x.alone(0, wrong), NONE);
        }
        for (int wrong : new int[] {6, -1, LEAST, MOST}) {
            due.is("MIND " + wrong, x.alone(wrong, 0), NONE);
        }
    }
}
