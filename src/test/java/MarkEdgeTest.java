/** Sentences of the document about MARKS, YEAR and THE MESSAGE that name an edge, each with its own test. */
public final class MarkEdgeTest {
    private static final int NONE = GoldPlate.NONE;
    private static final int NO_SUCH = -1000000;
    private static final int LEAST = Integer.MIN_VALUE;
    private static final int MOST = Integer.MAX_VALUE;
    private static final Due due = new Due();

    public static void main(String[] args) {
        constants();
        newObject();
        years();
        marksAsTheyCome();
        markFields();
        needs();
        knows();
        others();
        secondJustWithAFirst();
        tellWrong();
        hard();
        left();
        gone();
        worn();
        chain();
        ofWrong();
        messageOnceAtMost();
        messageEmptied();
        putWrong();
        look();
        due.close();
    }

    private static void constants() {
        due.says("NONE = -1: None. SPENT = -2: Spent.");
        due.is("NONE", GoldPlate.NONE, -1);
        due.is("SPENT", GoldPlate.SPENT, -2);
    }

    private static void newObject() {
        due.says("GoldPlate(): No MARKS, YEAR 0");
        GoldPlate x = new GoldPlate();
        due.is("MARKS", x.look(0), 0);
        due.is("YEAR", x.look(5), 0);
        due.is("no MARK 0", x.of(0, 0), NO_SUCH);
        due.says("THE MESSAGE (empty at first)");
        due.is("MARKS in it", x.look(1), 0);
        due.is("its one READING", x.readings(0, 0), 1);
        due.is("no TAKING", x.cheapest(0, 10), NONE);
        due.says("a new object has no BITS, BEATS, TRIALS");
        due.is("BITS", x.look(2), 0);
        due.is("BEATS", x.look(3), 0);
        due.is("TRIALS", x.look(4), 0);
        due.is("GRID", x.grid(1, 1), 1);
        due.is("TAPE", x.feed(0, 0, 0, 0, 0), 20);
        due.says("one object is not another");
        x.mark(0, 0, 1, 1, 0);
        x.year(5);
        GoldPlate y = new GoldPlate();
        due.is("MARKS of a second", y.look(0), 0);
        due.is("YEAR of a second", y.look(5), 0);
        due.is("MARKS of the first", x.look(0), 1);
    }

    private static void years() {
        due.says("YEAR is 0 .. 999 (0 at first)");
        GoldPlate x = new GoldPlate();
        due.yes("year(0)", x.year(0));
        due.yes("year(999)", x.year(999));
        for (int wrong : new int[] {1000, -1, NONE - 1, LEAST, MOST}) {
            due.no("year(" + wrong + ")", x.year(wrong));
            due.is("YEAR stays", x.look(5), 999);
        }
        due.yes("it goes back", x.year(1));
        due.is("YEAR", x.look(5), 1);
    }

    private static void marksAsTheyCome() {
        due.says("MARKS 0 .. 15 as they come; NONE if one can't be, or there are 16");
        GoldPlate x = new GoldPlate();
        for (int i = 0; i < 16; i++) {
            due.is("a wrong one takes no number", x.mark(7, 0, 1, 1, 0), NONE);
            due.is("how many", x.look(0), i);
            due.is("the next", x.mark(i % 7, i, 1 + i, 10 * i, i), i);
        }
        due.is("the 17th", x.mark(0, 0, 1, 1, 0), NONE);
        due.is("a wrong 17th", x.mark(0, 0, 0, 1, 0), NONE);
        due.is("how many", x.look(0), 16);
        for (int i = 0; i < 16; i++) {
            due.is("DEPTH of " + i, x.of(i, 0), 10 * i);
        }
    }

    private static int marked(int field, int v) {
        int[] f = {3, 3, 3, 3, 3};
        f[field] = v;
        GoldPlate x = new GoldPlate();
        int answer = x.mark(f[0], f[1], f[2], f[3], f[4]);
        due.is("MARKS then", x.look(0), answer == NONE ? 0 : 1);
        return answer;
    }

    private static void markField(String sentence, int field, int least, int most) {
        due.says(sentence);
        due.is("least", marked(field, least), 0);
        due.is("most", marked(field, most), 0);
        for (int wrong : new int[] {least - 1, most + 1, LEAST, MOST}) {
            due.is("" + wrong, marked(field, wrong), NONE);
        }
    }

    private static void markFields() {
        markField("a KIND 0 .. 6", 0, 0, 6);
        markField("a THING 0 .. 15", 1, 0, 15);
        markField("COST 1 .. 99", 2, 1, 99);
        markField("DEPTH 0 .. 999", 3, 0, 999);
        markField("SENSES (a set of 0 .. 3)", 4, 0, 15);
    }

    private static GoldPlate sixteen() {
        GoldPlate x = new GoldPlate();
        for (int i = 0; i < 16; i++) {
            x.mark(i % 7, i, 1, 100, 0);
        }
        return x;
    }

    private static void needs() {
        due.says("NEEDS (a set of lesser MARKS)");
        GoldPlate x = sixteen();
        for (int m = 0; m < 16; m++) {
            int lesser = (1 << m) - 1;
            due.yes("all lesser of " + m, x.tell(m, 0, lesser));
            for (int wrong : new int[] {1 << m, lesser + (1 << m), 1 << 15, 1 << 16, -1, LEAST, MOST}) {
                due.no(wrong + " of " + m, x.tell(m, 0, wrong));
                due.is("they stay", x.of(m, 2), m + 1);
            }
        }
        due.yes("none", x.tell(15, 0, 0));
        due.is("none", x.of(15, 2), 1);
        due.yes("just the greatest lesser one", x.tell(15, 0, 1 << 14));
        due.is("CHAIN", x.of(15, 2), 16);
    }

    private static void knows() {
        due.says("KNOWS (a set of FACTS 0 .. 7; 0 .. 255)");
        for (int fact = 0; fact < 8; fact++) {
            GoldPlate x = new GoldPlate();
            x.mark(0, 0, 1, 1, 0);
            Due.mind(x, 0, "know " + fact + ";");
            Due.mind(x, 1, "know " + (fact + 1) % 8 + ";");
            due.yes("FACT " + fact, x.tell(0, 1, 1 << fact));
            for (int wrong : new int[] {256, -1, LEAST, MOST}) {
                due.no("" + wrong, x.tell(0, 1, wrong));
            }
            due.is("whoever has it", x.told(0, 1), 1);
            due.is("whoever has another", x.told(1, 1), 0);
            due.yes("all FACTS", x.tell(0, 1, 255));
            due.is("one is not all", x.told(0, 1), 0);
            due.yes("none", x.tell(0, 1, 0));
            due.is("no FACT is needed", x.told(1, 1), 1);
        }
    }

    /** How many OTHERS MARK 0 has: with no price each is a READING. */
    private static int othersOf(GoldPlate x) {
        return x.readings(0, 0) - 2;
    }

    private static GoldPlate withThing(int thing) {
        GoldPlate x = new GoldPlate();
        x.mark(0, thing, 1, 1, 0);
        x.put(0);
        return x;
    }

    private static void others() {
        due.says("2 its first, 3 its second OTHER (a THING, not its own; NONE: none)");
        for (int what = 2; what <= 3; what++) {
            GoldPlate x = withThing(7);
            if (what == 3) {
                x.tell(0, 2, 1);
            }
            int before = what - 2;
            for (int wrong : new int[] {7, 16, -2, LEAST, MOST}) {
                due.no("tell " + what + ", " + wrong, x.tell(0, what, wrong));
                due.is("none came", othersOf(x), before);
            }
            due.yes("THING 0", x.tell(0, what, 0));
            due.is("it came", othersOf(x), before + 1);
            due.yes("THING 15 instead", x.tell(0, what, 15));
            due.no("its own", x.tell(0, what, 7));
            due.no("above", x.tell(0, what, 16));
            due.is("it stays", othersOf(x), before + 1);
            due.yes("none", x.tell(0, what, NONE));
            due.is("it is gone", othersOf(x), before);
            due.yes("none again", x.tell(0, what, NONE));
        }
        due.says("OTHERS: up to two THINGS");
        GoldPlate x = withThing(0);
        due.is("none at first", othersOf(x), 0);
        due.no("THING 0 is its own", x.tell(0, 2, 0));
        x.tell(0, 2, 5);
        x.tell(0, 3, 6);
        due.no("no third", x.tell(0, 4, 8));
        due.is("two", othersOf(x), 2);
    }

    private static void secondJustWithAFirst() {
        due.says("the second one just with a first");
        GoldPlate x = withThing(7);
        due.no("second without a first", x.tell(0, 3, 1));
        due.is("none came", othersOf(x), 0);
        due.yes("second none, without a first", x.tell(0, 3, NONE));
        x.tell(0, 2, 1);
        due.yes("second with a first", x.tell(0, 3, 2));
        due.no("the first can't go alone", x.tell(0, 2, NONE));
        due.is("both stay", othersOf(x), 2);
        due.yes("another first", x.tell(0, 2, 2));
        due.is("both are there, alike", othersOf(x), 2);
        x.tell(0, 3, NONE);
        due.yes("the first can go", x.tell(0, 2, NONE));
        due.no("and the second can't come", x.tell(0, 3, 2));
        due.is("none", othersOf(x), 0);
    }

    private static void tellWrong() {
        due.says("Of a MARK what 0, 1, 2, 3: true; false if one can't be");
        GoldPlate x = new GoldPlate();
        for (int what = -1; what < 5; what++) {
            due.no("no MARK 0, what " + what, x.tell(0, what, 0));
        }
        x.mark(0, 9, 1, 1, 0);
        x.mark(0, 9, 1, 1, 0);
        for (int wrong : new int[] {2, 15, 16, -1, LEAST, MOST}) {
            for (int what = 0; what < 4; what++) {
                due.no("MARK " + wrong + ", what " + what, x.tell(wrong, what, what == 0 ? 0 : 1));
            }
        }
        for (int wrong : new int[] {4, -1, LEAST, MOST}) {
            due.no("what " + wrong, x.tell(0, wrong, 0));
        }
    }

    private static void hard() {
        due.says("HARD 0 .. 99 of a KIND (0 at first)");
        GoldPlate x = new GoldPlate();
        for (int kind = 0; kind < 7; kind++) {
            x.mark(kind, 0, 1, 999, 0);
        }
        x.year(1);
        for (int kind = 0; kind < 7; kind++) {
            due.is("0 at first", x.of(kind, 0), 999);
            due.yes("most", x.hard(kind, 99));
            for (int wrong : new int[] {100, -1, LEAST, MOST}) {
                due.no("" + wrong, x.hard(kind, wrong));
                due.is("it stays", x.of(kind, 0), 900);
            }
        }
        due.yes("of one KIND", x.hard(3, 0));
        for (int kind = 0; kind < 7; kind++) {
            due.is("the others stay", x.of(kind, 0), kind == 3 ? 999 : 900);
        }
        for (int wrong : new int[] {7, -1, LEAST, MOST}) {
            due.no("KIND " + wrong, x.hard(wrong, 5));
        }
    }

    private static void left() {
        due.says("LEFT of a MARK is DEPTH less YEAR times HARD");
        GoldPlate x = new GoldPlate();
        x.mark(2, 0, 1, 0, 0);
        x.mark(2, 0, 1, 999, 0);
        x.hard(2, 99);
        x.year(999);
        due.is("the least of all", x.of(0, 0), -98901);
        due.is("of DEPTH 999", x.of(1, 0), 999 - 98901);
        x.hard(2, 1);
        x.year(1);
        due.is("below 0 by one", x.of(0, 0), -1);
        x.year(0);
        due.is("YEAR 0", x.of(1, 0), 999);
        due.is("YEAR 0, DEPTH 0", x.of(0, 0), 0);
    }

    private static int wearOf(int depth, int left) {
        GoldPlate x = new GoldPlate();
        x.mark(0, 0, 1, depth, 0);
        x.hard(0, 1);
        x.year(depth - left);
        due.is("LEFT", x.of(0, 0), left);
        return x.of(0, 1);
    }

    private static void gone() {
        due.says("it is GONE, if that is 0 or less");
        due.is("1", wearOf(10, 1), 1);
        due.is("0", wearOf(10, 0), 2);
        due.is("-1", wearOf(10, -1), 2);
        due.is("DEPTH 0", wearOf(0, 0), 2);
        due.is("far below", wearOf(0, -999), 2);
        due.is("1 of DEPTH 1", wearOf(1, 1), 0);
    }

    private static void worn() {
        due.says("WORN, if it is below half of DEPTH (downwards), else WHOLE");
        int[][] halves = {{10, 5}, {11, 5}, {4, 2}, {5, 2}, {998, 499}, {999, 499}};
        for (int[] h : halves) {
            due.is("half of " + h[0], wearOf(h[0], h[1]), 0);
            due.is("below half of " + h[0], wearOf(h[0], h[1] - 1), 1);
            due.is("all of " + h[0], wearOf(h[0], h[0]), 0);
        }
        GoldPlate x = sixteen();
        x.hard(1, 51);
        x.hard(2, 50);
        x.hard(3, 100 - 1);
        x.year(1);
        int[] wear = {0, 1, 0, 1, 0, 0, 0};
        for (int m = 0; m < 16; m++) {
            due.is("each MARK by its own KIND: " + m, x.of(m, 1), wear[m % 7]);
        }
        x.year(2);
        for (int m = 0; m < 16; m++) {
            due.is("each MARK by its own KIND: " + m, x.of(m, 1), m % 7 >= 1 && m % 7 <= 3 ? 2 : 0);
        }
        due.is("1 of 2", wearOf(2, 1), 0);
        due.is("1 of 3", wearOf(3, 1), 0);
    }

    private static void chain() {
        due.says("CHAIN of a MARK: how many MARKS are in the longest row of NEEDS that ends with it");
        GoldPlate x = sixteen();
        for (int m = 0; m < 16; m++) {
            due.is("without NEEDS", x.of(m, 2), 1);
        }
        for (int m = 1; m < 16; m++) {
            x.tell(m, 0, 1 << (m - 1));
        }
        for (int m = 0; m < 16; m++) {
            due.is("one needs the next", x.of(m, 2), m + 1);
        }
        x.tell(15, 0, 1 + (1 << 3) + (1 << 5));
        due.is("the longest of three", x.of(15, 2), 7);
        x.tell(15, 0, 1 + (1 << 5) + (1 << 3));
        x.tell(5, 0, 0);
        due.is("the longest, if it ends with a lesser one", x.of(15, 2), 5);
        x.hard(0, 99);
        x.year(999);
        due.is("GONE or not", x.of(15, 2), 5);
    }

    private static void ofWrong() {
        due.says("NONE - 999999 if there is none such, or another what");
        GoldPlate x = new GoldPlate();
        x.mark(0, 0, 1, 50, 0);
        for (int wrong : new int[] {1, 15, 16, -1, LEAST, MOST}) {
            for (int what = 0; what < 3; what++) {
                due.is("of(" + wrong + ", " + what + ")", x.of(wrong, what), NO_SUCH);
            }
        }
        for (int wrong : new int[] {3, -1, LEAST, MOST}) {
            due.is("what " + wrong, x.of(0, wrong), NO_SUCH);
        }
    }

    private static void messageOnceAtMost() {
        due.says("THE MESSAGE is a row of MARKS, each once at most");
        GoldPlate x = sixteen();
        for (int i = 0; i < 16; i++) {
            int m = 5 * i % 16;
            due.is("put(" + m + ")", x.put(m), i + 1);
            due.is("again", x.put(m), NONE);
            due.is("the first again", x.put(0), NONE);
            due.is("how many", x.look(1), i + 1);
        }
    }

    private static void messageEmptied() {
        due.says("A MARK comes behind THE MESSAGE (NONE: it is empty then)");
        GoldPlate x = sixteen();
        due.is("empty before", x.put(NONE), 0);
        x.put(15);
        x.put(0);
        due.is("empty then", x.put(NONE), 0);
        due.is("how many", x.look(1), 0);
        Due.mind(x, 0, "price 9 when bare=1;price 0 when place=0;price 9;");
        due.is("behind", x.put(0), 1);
        due.is("behind", x.put(15), 2);
        due.is("the first now", x.cheapest(0, 1), 15);
        due.is("MARKS stay", x.look(0), 16);
    }

    private static void putWrong() {
        due.says("NONE if one can't be, or it is there");
        GoldPlate x = new GoldPlate();
        due.is("no MARK yet", x.put(0), NONE);
        x.mark(0, 0, 1, 1, 0);
        for (int wrong : new int[] {1, 15, 16, -2, LEAST, MOST}) {
            due.is("put(" + wrong + ")", x.put(wrong), NONE);
            due.is("how many", x.look(1), 0);
        }
        due.is("it can be now", x.put(0), 1);
        due.is("a GONE one, too", x.mark(0, 0, 1, 0, 15), 1);
        due.is("can be put", x.put(1), 2);
    }

    private static void look() {
        due.says("What 0 MARKS, 1 MARKS in THE MESSAGE, 2 BITS, 3 BEATS, 4 TRIALS, 5 YEAR. NONE for another what");
        GoldPlate x = sixteen();
        for (int i = 0; i < 10; i++) {
            x.put(i);
        }
        for (int i = 0; i < 25; i++) {
            x.bits(0, 16);
        }
        for (int i = 0; i < 14; i++) {
            x.beat(1, 0, 0, 0);
        }
        for (int i = 0; i < 40; i++) {
            x.trial(0);
        }
        x.year(999);
        int[] most = {16, 10, 400, 14, 40, 999};
        for (int what = 0; what < 6; what++) {
            due.is("look(" + what + ")", x.look(what), most[what]);
        }
        for (int wrong : new int[] {6, -1, LEAST, MOST}) {
            due.is("look(" + wrong + ")", x.look(wrong), NONE);
        }
    }
}
