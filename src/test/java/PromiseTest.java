/** The promises of the document, one by one: ordinary inputs, the edges that it names, wrong inputs. */
public final class PromiseTest {
    private static final int NONE = GoldPlate.NONE;
    private static final int NO_SUCH = -1000000;
    private static final int LEAST = Integer.MIN_VALUE;
    private static final int MOST = Integer.MAX_VALUE;
    private static final Due due = new Due();

    public static void main(String[] args) {
        due.is("NONE", GoldPlate.NONE, -1);
        due.is("SPENT", GoldPlate.SPENT, -2);
        newObject();
        mark();
        tell();
        tellOthers();
        hardAndYear();
        of();
        put();
        feedAndEnd();
        mind();
        faults();
        longTexts();
        openBrackets();
        textsAreWorked();
        readings();
        takings();
        prices();
        pricesBehind();
        cheapest();
        falls();
        alone();
        bitsAndGrid();
        widths();
        laid();
        beat();
        found();
        years();
        farAndPlaces();
        told();
        best();
        never();
        deeper();
        trial();
        agrees();
        ours();
        look();
        due.close();
    }

    /** An object with so many MARKS of kind 0, each with its own thing, cost 1, depth 100, no senses. */
    private static GoldPlate plain(int marks) {
        GoldPlate x = new GoldPlate();
        for (int i = 0; i < marks; i++) {
            x.mark(0, i % 16, 1, 100, 0);
        }
        return x;
    }

    private static void putAll(GoldPlate x, int marks) {
        for (int i = 0; i < marks; i++) {
            x.put(i);
        }
    }

    private static void newObject() {
        GoldPlate x = new GoldPlate();
        for (int what = 0; what < 6; what++) {
            due.is("new: look " + what, x.look(what), 0);
        }
        due.is("new: of", x.of(0, 0), NO_SUCH);
        due.is("new: fault 0", x.fault(0), 0);
        due.is("new: fault 1", x.fault(1), NONE);
        due.is("new: readings", x.readings(0, 0), 1);
        due.is("new: widths", x.widths(0, 0), 0);
        due.is("new: places", x.places(0, 0), 1600);
        due.is("new: years", x.years(2), 0);
        due.is("new: agrees", x.agrees(0), NONE);
        due.is("new: never", x.never(0), 0);
        due.is("new: best 1", x.best(0, 63, 1), 0);
    }

    private static void mark() {
        GoldPlate x = new GoldPlate();
        int[][] wrong = {
            {-1, 0, 1, 0, 0}, {7, 0, 1, 0, 0}, {0, -1, 1, 0, 0}, {0, 16, 1, 0, 0}, {0, 0, 0, 0, 0},
            {0, 0, 100, 0, 0}, {0, 0, 1, -1, 0}, {0, 0, 1, 1000, 0}, {0, 0, 1, 0, -1}, {0, 0, 1, 0, 16},
            {LEAST, 0, 1, 0, 0}, {0, MOST, 1, 0, 0}};
        for (int[] w : wrong) {
            due.is("wrong mark", x.mark(w[0], w[1], w[2], w[3], w[4]), NONE);
        }
        due.is("no mark came", x.look(0), 0);
        due.is("least mark", x.mark(0, 0, 1, 0, 0), 0);
        due.is("most mark", x.mark(6, 15, 99, 999, 15), 1);
        for (int i = 2; i < 16; i++) {
            due.is("mark", x.mark(1, 1, 1, 1, 1), i);
        }
        due.is("17th mark", x.mark(1, 1, 1, 1, 1), NONE);
        due.is("marks", x.look(0), 16);
    }

    private static void tell() {
        GoldPlate x = plain(3);
        due.no("no such mark", x.tell(3, 0, 0));
        due.no("mark below", x.tell(-1, 0, 0));
        due.no("another what", x.tell(0, 4, 0));
        due.no("what below", x.tell(0, -1, 0));
        due.yes("no needs", x.tell(0, 0, 0));
        due.no("needs itself", x.tell(0, 0, 1));
        due.yes("needs all lesser", x.tell(2, 0, 3));
        due.no("needs itself", x.tell(2, 0, 4));
        due.no("needs below 0", x.tell(2, 0, -1));
        due.is("needs stay", x.of(2, 2), 2);
        due.yes("needs told again", x.tell(2, 0, 0));
        due.is("needs are none", x.of(2, 2), 1);
        due.yes("all facts", x.tell(0, 1, 255));
        due.no("facts above", x.tell(0, 1, 256));
        due.no("facts below", x.tell(0, 1, -1));
        due.is("known by none", x.told(0, 1), 0);
        due.yes("no facts", x.tell(0, 1, 0));
        due.is("told", x.told(0, 1), 1);
    }

    private static void tellOthers() {
        GoldPlate x = plain(2);
        due.no("second without a first", x.tell(1, 3, 5));
        due.no("first is its own", x.tell(1, 2, 1));
        due.no("first above", x.tell(1, 2, 16));
        due.no("first below", x.tell(1, 2, -2));
        due.yes("first none", x.tell(1, 2, NONE));
        due.yes("second none", x.tell(1, 3, NONE));
        due.yes("first", x.tell(1, 2, 0));
        due.no("second is its own", x.tell(1, 3, 1));
        due.no("second above", x.tell(1, 3, 16));
        due.yes("second is the first", x.tell(1, 3, 0));
        due.no("the second would be without a first", x.tell(1, 2, NONE));
        x.put(1);
        due.is("four takings", x.readings(0, 0), 4);
        due.yes("second goes", x.tell(1, 3, NONE));
        due.is("three takings", x.readings(0, 0), 3);
        due.yes("first goes", x.tell(1, 2, NONE));
        due.is("two takings", x.readings(0, 0), 2);
    }

    private static void hardAndYear() {
        GoldPlate x = new GoldPlate();
        x.mark(6, 0, 1, 999, 0);
        due.no("kind above", x.hard(7, 0));
        due.no("kind below", x.hard(-1, 0));
        due.no("hard above", x.hard(6, 100));
        due.no("hard below", x.hard(6, -1));
        due.yes("hard", x.hard(6, 99));
        due.yes("hard of another kind", x.hard(0, 7));
        due.is("year 0", x.of(0, 0), 999);
        due.yes("year", x.year(999));
        due.is("left", x.of(0, 0), 999 - 999 * 99);
        due.no("year above", x.year(1000));
        due.no("year below", x.year(-1));
        due.is("year stays", x.look(5), 999);
        due.yes("year back", x.year(0));
        due.is("year is 0", x.look(5), 0);
        due.yes("hard 0", x.hard(6, 0));
        x.year(500);
        due.is("nothing goes", x.of(0, 0), 999);
    }

    private static void of() {
        GoldPlate x = new GoldPlate();
        x.mark(0, 0, 1, 101, 0);
        x.mark(0, 0, 1, 0, 0);
        x.mark(0, 0, 1, 1, 0);
        x.hard(0, 1);
        int[][] wear = {{0, 0}, {51, 0}, {52, 1}, {100, 1}, {101, 2}, {102, 2}};
        for (int[] w : wear) {
            x.year(w[0]);
            due.is("left in " + w[0], x.of(0, 0), 101 - w[0]);
            due.is("wear in " + w[0], x.of(0, 1), w[1]);
        }
        x.year(0);
        due.is("depth 0 is gone", x.of(1, 1), 2);
        due.is("depth 1 is whole", x.of(2, 1), 0);
        due.is("another what", x.of(0, 3), NO_SUCH);
        due.is("what below", x.of(0, -1), NO_SUCH);
        due.is("no such mark", x.of(3, 0), NO_SUCH);
        due.is("mark below", x.of(-1, 2), NO_SUCH);
        x.mark(0, 0, 1, 1, 0);
        x.mark(0, 0, 1, 1, 0);
        x.tell(1, 0, 1);
        x.tell(2, 0, 2);
        x.tell(4, 0, 5 + 8);
        due.is("chain of 0", x.of(0, 2), 1);
        due.is("chain of 2", x.of(2, 2), 3);
        due.is("chain of 3", x.of(3, 2), 1);
        due.is("chain of 4", x.of(4, 2), 4);
        x.tell(1, 0, 0);
        due.is("shorter chain of 4", x.of(4, 2), 3);
    }

    private static void put() {
        GoldPlate x = plain(16);
        due.is("no such mark", x.put(16), NONE);
        due.is("below NONE", x.put(-2), NONE);
        for (int i = 0; i < 16; i++) {
            due.is("put", x.put(15 - i), i + 1);
        }
        due.is("it is there", x.put(0), NONE);
        due.is("sixteen", x.look(1), 16);
        due.is("empty", x.put(NONE), 0);
        due.is("none", x.look(1), 0);
        due.is("again", x.put(0), 1);
        due.is("twice", x.put(0), NONE);
    }

    private static void feedAndEnd() {
        GoldPlate x = new GoldPlate();
        due.no("end above", x.end(1));
        due.no("end below", x.end(-1));
        due.yes("end 0", x.end(0));
        for (int i = 1; i <= 25; i++) {
            due.is("feed", x.feed(0x20202020, 0x20202020, 0x20202020, 0x20202020, 0x20202020), 20 * i);
        }
        due.is("above 500", x.feed(0, 0, 0, 0, 0), NONE);
        due.no("end above", x.end(501));
        due.yes("end 500", x.end(500));
        due.yes("end 481", x.end(481));
        due.is("above 500", x.feed(0, 0, 0, 0, 0), NONE);
        due.is("blanks are no lines", x.mind(0), 0);
        due.is("the tape is empty", x.feed(0x7472793b, 0, 0, 0, 0), 20);
        due.yes("end 4", x.end(4));
        due.is("try;", x.mind(0), NONE);
        due.is("highest byte first", x.fault(1), 3);
        due.is("empty after a fault", x.feed(0, 0, 0, 0, 0), 20);
        due.is("no such mind", x.mind(6), NONE);
        due.is("empty then, too", x.feed(0, 0, 0, 0, 0), 20);
    }

    private static void mind() {
        GoldPlate x = plain(1);
        x.mark(0, 1, 1, 1, 1);
        due.is("empty text", Due.mind(x, 5, ""), 0);
        due.is("blanks and lines", Due.mind(x, 5, " \n sense 0 ;\nknow\n7;twin 1;price 1;try 1; "), 5);
        due.is("sees", x.alone(5, 1), 1);
        due.is("fault", Due.mind(x, 5, "sense 1;x"), NONE);
        due.is("it stays as it was", x.alone(5, 1), 1);
        due.is("fault", x.fault(0), 1);
        due.is("fault's place", x.fault(1), 8);
        due.is("fault's what above", x.fault(2), NONE);
        due.is("fault's what below", x.fault(-1), NONE);
        due.is("no such mind", Due.mind(x, 6, "x"), NONE);
        due.is("no fault of no mind", x.fault(0), 0);
        due.is("nowhere", x.fault(1), NONE);
        due.is("no such mind", Due.mind(x, -1, ""), NONE);
        due.is("empty again", Due.mind(x, 5, ""), 0);
        due.is("sees no more", x.alone(5, 1), 0);
        due.is("without blanks", Due.mind(x, 5, "sense0;know0;price1when1=1and2=2or3=3;try1+2;"), 4);
        due.is("the same sense twice", Due.mind(x, 5, "sense 3;sense 3;"), 2);
        due.is("sixteen lines", Due.mind(x, 5, "know 1;".repeat(16)), 16);
    }

    private static void fault(String text, int what, int place) {
        GoldPlate x = new GoldPlate();
        due.is("mind of " + text, Due.mind(x, 0, text), NONE);
        due.is("fault of " + text, x.fault(0), what);
        due.is("its place of " + text, x.fault(1), place);
    }

    private static void faults() {
        fault(";", 1, 0);
        fault("sense", 1, 5);
        fault("sense  ", 1, 7);
        fault("sense 1", 1, 7);
        fault("sense ;", 1, 6);
        fault("sense 1 sense", 1, 8);
        fault("sense 4;", 2, 6);
        fault("sense 9999", 2, 6);
        fault("sense 00000;", 1, 6);
        fault("sense 12345;", 1, 6);
        fault("sense 0003", 1, 10);
        fault("know 8;", 2, 5);
        fault("twin 2;", 2, 5);
        fault("twin 0;twin 5;", 3, 7);
        fault("try 1;twin 1;try ;", 3, 13);
        fault("try 1 when 1=1;", 1, 6);
        fault("when", 1, 0);
        fault("kind", 1, 0);
        fault("7", 1, 0);
        fault("senses 1;", 1, 0);
        fault("Sense 1;", 1, 0);
        for (String letter : new String[] {"A", "X", "Z", "a", "z"}) {
            fault("sense" + letter + " 1;", 1, 0);
            fault("sense 1" + letter + ";", 1, 7);
        }
        for (String sign : new String[] {"@", "[", "`", "{", ":", "/", "\0", "_"}) {
            fault("sense" + sign + " 1;", 1, 5);
        }
        fault("sense\t1;", 1, 5);
        fault("sense 1;\r", 1, 8);
        fault("sense 1;" + (char) 233, 1, 8);
        fault("price ;", 1, 6);
        fault("price -1;", 1, 6);
        fault("price (1);", 1, 6);
        fault("price 1 2;", 1, 8);
        fault("price 1+;", 1, 8);
        fault("price 1*;", 1, 8);
        fault("price 1/kind;", 1, 8);
        fault("price 1/0000;", 2, 8);
        fault("price 1/00000;", 1, 8);
        fault("price 1/0*;", 2, 8);
        fault("price 1 when;", 1, 12);
        fault("price 1 when 1;", 1, 14);
        fault("price 1 when 1=1=1;", 1, 16);
        fault("price 1 when 1=1 and;", 1, 20);
        fault("price 1 when 1=1 or or;", 1, 20);
        fault("price 1 when (1)=1;", 1, 15);
        fault("price 1 when (1=1;", 1, 17);
        fault("price 1 when 1=1);", 1, 16);
        fault("price 1 when not;", 1, 16);
        fault("price 1 when 1=not 1;", 1, 15);
        fault("price sense;", 1, 6);
        fault("know 1;".repeat(16) + "know 8;", 3, 112);
        fault("know 1;".repeat(16) + "when", 1, 112);
        fault("know 1;".repeat(15) + "twin 0;twin 0;", 3, 112);
    }

    /** Five hundred bytes, and nearly as many TOKENS. */
    private static void longTexts() {
        GoldPlate x = plain(1);
        x.put(0);
        String sum = "price 1" + "+1".repeat(246) + ";";
        due.is("500 bytes", sum.length(), 500);
        due.is("a long sum", Due.mind(x, 0, sum), 1);
        due.is("is worked", x.cheapest(0, 0), 247);
        due.is("many claims", Due.mind(x, 0, "price 7 when 1=1" + " and 1=1".repeat(60) + ";"), 1);
        due.is("all so", x.cheapest(0, 0), 7);
        due.is("many claims", Due.mind(x, 0, "price 7 when 1=2" + " or 1=2".repeat(60) + " or 1=1;"), 1);
        due.is("the last so", x.cheapest(0, 0), 7);
        fault(";".repeat(500), 1, 0);
        fault("price " + "1+".repeat(247), 1, 500);
    }

    private static void openBrackets() {
        GoldPlate x = new GoldPlate();
        due.is("eight", Due.mind(x, 0, "price 1 when ((((((((1=1))))))));"), 1);
        due.is("eight twice", Due.mind(x, 0, "price 1 when ((((((((1=1)))))))) and not not not not (((( 1=2))));"), 1);
        due.is("closed nots", Due.mind(x, 0, "price 1 when not not not not not not not not 1=1 or not 1=1;"), 1);
        fault("price 1 when (((((((((1=1)))))))));", 3, 21);
        fault("price 1 when not(not(not(not(not 1=1))));", 3, 29);
        fault("price 1 when not(not(not(not(1=1 and (1=1)))));", 3, 37);
        fault("price 1 when not(not(not(not(1 and (1=1)))));", 1, 31);
    }

    /** What a price text answers for one MARK of kind 5, cost 20 and depth 101 that is not read. */
    private static int bare(String price) {
        GoldPlate x = new GoldPlate();
        x.mark(5, 0, 20, 101, 1);
        x.put(0);
        due.yes("a text: " + price, Due.mind(x, 0, price) >= 0);
        return x.cheapest(0, 0);
    }

    private static void textsAreWorked() {
        due.is("no price line", bare("know 1;"), 0);
        due.is("values", bare("price kind*100+cost+place+left/2;"), 570);
        due.is("left to right", bare("price 100-10-1+2;"), 91);
        due.is("times first", bare("price 1+2*3-4/2;"), 5);
        due.is("parts in turn", bare("price 7/2*2;"), 6);
        due.is("towards 0", bare("price 0-3/2+5;"), 4);
        due.is("of what is below 0", bare("price 5 when kind*0-7/2=0-3;"), 5);
        due.is("cut above", bare("price 9999;"), 999);
        due.is("cut below", bare("price 3-5;"), 0);
        due.is("wraps", bare("price 7 when 9999*9999*9999*9999<0;price 8;"), 9999 * 9999 * 9999 * 9999 < 0 ? 7 : 8);
        due.is("first that is so", bare("price 1 when 1=2;price 2 when 1<2;price 3;"), 2);
        due.is("not below", bare("price 1 when 2<2;price 2;"), 2);
        due.is("not so", bare("price 1 when not 1=1;price 2;"), 2);
        due.is("a value of its own", bare("price 3 when (1=1 or 1=1) and (1<2 or 2>1);"), 3);
        due.is("above", bare("price 1 when 2>1;"), 1);
        due.is("not above", bare("price 1 when 2>2;price 2;"), 2);
        due.is("none is so", bare("price 5 when 1=2;"), 0);
        due.is("and before or", bare("price 1 when 1=1 or 1=1 and 1=2;price 2;"), 1);
        due.is("or behind and", bare("price 1 when 1=2 and 1=1 or 1=1;price 2;"), 1);
        due.is("brackets", bare("price 1 when (1=1 or 1=1) and 1=2;price 2;"), 2);
        due.is("not binds nearest", bare("price 1 when not 1=2 and 1=2;price 2;"), 2);
        due.is("not of brackets", bare("price 1 when not (1=2 and 1=2);price 2;"), 1);
        due.is("not not", bare("price 1 when not not 1=1;price 2;"), 1);
        due.is("bare", bare("price bare*7+twice+other;"), 7);
        due.is("others are 0", bare("price 3+width+height+prime+edges+far;"), 3);
    }

    private static void readings() {
        GoldPlate x = plain(11);
        due.is("price below", x.readings(0, -1), NONE);
        due.is("price above", x.readings(0, 10000), NONE);
        due.is("mind below", x.readings(-1, 0), NONE);
        due.is("mind above", x.readings(6, 0), NONE);
        putAll(x, 10);
        due.is("1024 readings", x.readings(0, 0), 1024);
        x.put(10);
        due.is("eleven marks", x.readings(0, 0), NONE);
        GoldPlate y = plain(10);
        Due.mind(y, 0, "price 1 when bare=1;price 3;");
        putAll(y, 10);
        due.is("below the cheapest", y.readings(0, 9), 0);
        due.is("the cheapest", y.readings(0, 10), 1);
        due.is("one more", y.readings(0, 12), 11);
        due.is("between", y.readings(0, 13), 11);
        due.is("two more", y.readings(0, 14), 56);
        due.is("all", y.readings(0, 9999), 1024);
    }

    /** Readings of a message of ten MARKS, of which so many have an OTHER. */
    private static int tenRead(int others) {
        GoldPlate x = plain(10);
        for (int i = 0; i < others; i++) {
            x.tell(i, 2, 15);
        }
        putAll(x, 10);
        return x.readings(0, 9999);
    }

    /** Just 2000 readings, then one more. */
    private static void thousands() {
        GoldPlate x = plain(10);
        // A MARK that is needed and one that needs it and has an OTHER: 2 and 3, five readings.
        for (int i = 0; i < 6; i += 2) {
            x.tell(i + 1, 0, 1 << i);
            x.tell(i + 1, 2, 15);
        }
        putAll(x, 10);
        Due.mind(x, 0, "price other*9 when place=9;price 1-bare;");
        due.is("5 * 5 * 5 * 16", x.readings(0, 9), 2000);
        due.is("also without a limit", x.readings(0, 9999), 2000);
        x.tell(9, 2, 15);
        due.is("one more: all else is not read", x.readings(0, 9), GoldPlate.SPENT);
        x.tell(9, 2, NONE);
        due.is("2000 again", x.readings(0, 9), 2000);
    }

    private static void takings() {
        due.is("1536 readings", tenRead(1), 1536);
        due.is("2304 are too many", tenRead(2), GoldPlate.SPENT);
        thousands();
        GoldPlate x = plain(2);
        x.tell(1, 0, 1);
        x.put(1);
        x.put(0);
        due.is("needs stand behind", x.readings(0, 0), 2);
        x.put(NONE);
        putAll(x, 2);
        due.is("needs stand ahead", x.readings(0, 0), 3);
        x.tell(1, 2, 7);
        due.is("an other needs nothing", x.readings(0, 0), 5);
        x.tell(1, 1, 2);
        due.is("a fact is lacking", x.readings(0, 0), 4);
        Due.mind(x, 1, "know 1;");
        due.is("a fact is had", x.readings(1, 0), 5);
        x.tell(0, 2, 8);
        due.is("what is taken for another is not right", x.readings(1, 0), 7);
        GoldPlate y = new GoldPlate();
        y.mark(0, 0, 1, 10, 5);
        y.tell(0, 2, 1);
        y.put(0);
        Due.mind(y, 0, "sense 0;");
        Due.mind(y, 1, "sense 0;sense 2;");
        due.is("a sense is lacking", y.readings(0, 0), 1);
        due.is("all senses", y.readings(1, 0), 3);
        y.hard(0, 1);
        y.year(10);
        due.is("gone", y.readings(1, 0), 1);
    }

    private static void prices() {
        GoldPlate x = new GoldPlate();
        x.mark(0, 3, 1, 100, 0);
        x.mark(1, 4, 1, 100, 0);
        x.tell(1, 2, 3);
        x.tell(1, 3, 5);
        x.hard(0, 3);
        x.hard(1, 1);
        putAll(x, 2);
        Due.mind(x, 0, "price 99 when bare=1;price 1+other*10-twice*5 when kind=1;price 50;");
        due.is("right", x.cheapest(0, 0), 51);
        due.is("right", x.cheapest(0, 11), 1);
        Due.mind(x, 0, "price 99 when bare=1;price 50+0-twice*45-other;");
        due.is("twice as the first other", x.cheapest(0, 0), 54);
        due.is("taken for the first other", x.cheapest(0, 11), 2);
        x.tell(1, 2, 5);
        x.tell(1, 3, 3);
        due.is("twice as the second other", x.cheapest(0, 0), 54);
        due.is("taken for the second other", x.cheapest(0, 11), 3);
        Due.mind(x, 1, "price worn*10+place*worn*3+left when bare=1;price 999;");
        x.year(26);
        due.is("left of both", x.cheapest(1, 0), 22 + 10 + 74);
        x.year(60);
        due.is("gone is not worn and has 0 left", x.cheapest(1, 0), 40 + 13);
        x.year(0);
        x.mark(0, 0, 1, 1, 0);
        x.put(NONE);
        x.put(2);
        Due.mind(x, 2, "price 50 when bare=1;price 9-twice*9;");
        due.is("nothing is ahead of thing 0", x.cheapest(2, 0), 9);
        x.put(0);
        x.put(1);
        Due.mind(x, 2, "price place*7+3;");
        due.is("places from 0", x.cheapest(2, 0), 30);
    }

    /** What is dearer twice, or cheaper, at a place behind: the walk must not be cut off by it. */
    private static void pricesBehind() {
        GoldPlate x = plain(2);
        x.tell(0, 2, 14);
        x.tell(1, 2, 15);
        putAll(x, 2);
        Due.mind(x, 0, "price 3 when other=1 and twice=1;price 0 when other=1;price 2;");
        due.is("two others", x.cheapest(0, 0), 0);
        due.is("both up to it", x.readings(0, 0), 1);
        x.tell(1, 2, 14);
        due.is("one other", x.cheapest(0, 0), 2);
        Due.mind(x, 0, "price 0 when other=1 and twice=1;price 3 when other=1;price 2;");
        due.is("an other twice", x.cheapest(0, 0), 3);
        Due.mind(x, 0, "price 0 when bare=0 and other=0 and twice=0;price 2;");
        due.is("right once", x.cheapest(0, 0), 0);
        GoldPlate y = new GoldPlate();
        y.mark(0, 3, 1, 1, 0);
        y.mark(0, 3, 1, 1, 0);
        putAll(y, 2);
        Due.mind(y, 0, "price 0 when twice=1;price 3-bare;");
        due.is("right twice", y.cheapest(0, 0), 3);
        due.is("up to it", y.readings(0, 3), 1);
    }

    private static void cheapest() {
        GoldPlate x = plain(11);
        due.is("empty: price", x.cheapest(0, 0), 0);
        due.is("empty: parts", x.cheapest(0, 1), NONE);
        due.is("empty: falls", x.cheapest(0, 2), 0);
        due.is("empty: no taking", x.cheapest(0, 10), NONE);
        putAll(x, 3);
        due.is("of several the first", x.cheapest(0, 10), 0);
        Due.mind(x, 0, "price 5 when place=1 and bare=0;price 2 when bare=1;price 2 when place=0;price 1;");
        due.is("price", x.cheapest(0, 0), 5);
        due.is("first taking", x.cheapest(0, 10), 0);
        due.is("second taking", x.cheapest(0, 11), 0);
        due.is("third taking", x.cheapest(0, 12), 1);
        due.is("no fourth", x.cheapest(0, 13), NONE);
        due.is("parts", x.cheapest(0, 1), 0);
        due.is("another what", x.cheapest(0, 3), NONE);
        due.is("another what", x.cheapest(0, 9), NONE);
        due.is("what below", x.cheapest(0, -1), NONE);
        due.is("mind below", x.cheapest(-1, 0), NONE);
        due.is("mind above", x.cheapest(6, 0), NONE);
        Due.mind(x, 1, "price bare;");
        due.is("nowhere", x.cheapest(1, 1), NONE);
        due.is("no falls", x.cheapest(1, 2), 0);
        putAll(x, 10);
        due.is("ten marks", x.cheapest(1, 19), 1);
        due.is("ten marks cost", x.cheapest(2, 0), 0);
        x.put(10);
        due.is("eleven marks", x.cheapest(1, 0), NONE);
        due.is("eleven marks", x.cheapest(1, 10), NONE);
        GoldPlate dear = plain(10);
        putAll(dear, 10);
        Due.mind(dear, 0, "price 9999;");
        due.is("dearest", dear.cheapest(0, 0), 9990);
        due.is("just up to it", dear.readings(0, 9990), 1024);
        due.is("not below it", dear.readings(0, 9989), 0);
    }

    private static void falls() {
        GoldPlate x = plain(6);
        x.tell(1, 0, 1);
        x.tell(2, 0, 2);
        x.tell(4, 0, 1);
        x.tell(5, 0, 8);
        x.tell(4, 2, 9);
        int[] row = {3, 0, 4, 2, 5};
        for (int m : row) {
            x.put(m);
        }
        Due.mind(x, 0, "price 9 when place=1 and bare=0;price 1 when bare=1;price 0;");
        due.is("parts at a mark", x.cheapest(0, 1), 0);
        due.is("a mark taken for another", x.cheapest(0, 12), 2);
        due.is("falls, by one that is not there", x.cheapest(0, 2), 2);
        due.is("what needs another stays", x.cheapest(0, 14), 1);
    }

    private static void alone() {
        GoldPlate x = new GoldPlate();
        x.mark(0, 0, 1, 10, 1);
        x.mark(1, 1, 1, 10, 0);
        x.mark(1, 2, 1, 10, 0);
        x.tell(1, 0, 1);
        x.tell(2, 0, 2);
        x.tell(0, 1, 1);
        Due.mind(x, 0, "sense 0;know 0;");
        Due.mind(x, 1, "sense 0;");
        Due.mind(x, 2, "know 0;");
        due.is("alone", x.alone(0, 2), 1);
        due.is("a fact of what it needs", x.alone(1, 2), 0);
        due.is("a sense of what it needs", x.alone(2, 2), 0);
        x.hard(0, 10);
        x.year(1);
        due.is("what it needs is gone", x.alone(0, 2), 0);
        due.is("no such mark", x.alone(0, 3), NONE);
        due.is("mark below", x.alone(0, -1), NONE);
        due.is("mind above", x.alone(6, 0), NONE);
        due.is("mind below", x.alone(-1, 0), NONE);
    }

    private static void bitsAndGrid() {
        GoldPlate x = new GoldPlate();
        due.is("n above", x.bits(0, 33), NONE);
        due.is("n below", x.bits(0, -1), NONE);
        for (int i = 1; i <= 12; i++) {
            due.is("bits", x.bits(-1, 32), 32 * i);
            due.is("grid", x.grid(0, 32), 32 * i);
        }
        due.is("above 400", x.bits(0, 17), NONE);
        due.is("above 400", x.grid(0, 17), NONE);
        due.is("400 bits", x.bits(0xffff, 16), 400);
        due.is("400 grid bits", x.grid(0xffff, 16), 400);
        due.is("401", x.bits(0, 1), NONE);
        due.is("400", x.look(2), 400);
        due.is("highest first", x.laid(0, 20, 0), 16);
        due.is("grid n above", x.grid(0, 33), NONE);
        due.is("grid n below", x.grid(0, -1), NONE);
        due.is("none", x.bits(-1, 0), 0);
        due.is("none", x.look(2), 0);
        due.is("grid stays", x.grid(0, 1), NONE);
        due.is("no grid", x.grid(-1, 0), 0);
        due.is("just n", x.bits(-16 + 9, 4), 4);
        due.is("grid of 4", x.grid(9, 4), 4);
        due.is("the lowest 4, highest first", x.laid(0, 2, 0), 4);
        due.is("one bit", x.bits(1, 1), 5);
    }

    private static void widthsAre(GoldPlate x, int k, int... want) {
        due.is("how many widths", x.widths(k, 0), want.length);
        for (int i = 0; i < want.length; i++) {
            due.is("width " + i, x.widths(k, 1 + i), want[i]);
        }
        due.is("no more widths", x.widths(k, 1 + want.length), NONE);
    }

    private static void widths() {
        GoldPlate x = new GoldPlate();
        due.is("mind above", x.widths(6, 0), NONE);
        due.is("mind below", x.widths(-1, 0), NONE);
        due.is("what below", x.widths(0, -1), NONE);
        due.is("what far above", x.widths(0, MOST), NONE);
        widthsAre(x, 0);
        x.bits(1, 1);
        widthsAre(x, 0);
        x.bits(1, 2);
        widthsAre(x, 0);
        x.bits(1, 1);
        widthsAre(x, 0, 2);
        x.bits(0, 8);
        widthsAre(x, 0, 2, 3, 4, 6);
        Due.mind(x, 1, "try height;");
        widthsAre(x, 1, 6, 4, 3, 2);
        Due.mind(x, 1, "try far*10+height;");
        widthsAre(x, 1, 4, 3, 6, 2);
        Due.mind(x, 1, "try 0-width*prime;");
        widthsAre(x, 1, 2, 3, 4, 6);
        Due.mind(x, 1, "try 0-9999*9999*width;");
        int[] ranks = new int[7];
        for (int w = 2; w < 7; w++) {
            ranks[w] = -(9999 * 9999 * w);
        }
        due.yes("least first, wrapped", ranks[x.widths(1, 1)] <= ranks[x.widths(1, 2)]
                && ranks[x.widths(1, 2)] <= ranks[x.widths(1, 3)] && ranks[x.widths(1, 3)] <= ranks[x.widths(1, 4)]);
        x.bits(0, 0);
        x.bits(0, 15);
        Due.mind(x, 2, "try 7-width*prime;price 4;");
        widthsAre(x, 2, 5, 3);
        Due.mind(x, 2, "try width*prime*2-width*3;");
        widthsAre(x, 2, 5, 3);
        x.bits(0, 0);
        x.bits(0b010101, 6);
        Due.mind(x, 3, "try edges;twin 1;");
        widthsAre(x, 3, 2, 3);
        Due.mind(x, 3, "try 3-edges;twin 1;");
        widthsAre(x, 3, 3, 2);
        edges(6, 0b110100, 2, 3, 3 - 3);
        edges(6, 0b110000, 2, 3, 2 - 3);
        edges(6, 0b000011, 2, 3, 2 - 3);
        edges(6, 0b101010, 2, 3, 3 - 7);
        edges(6, 0b100100, 2, 3, 5 - 2);
        edges(6, 0b111000, 2, 3, 3 - 3);
        edges(6, 0b011110, 2, 3, 4 - 4);
        edges(15, 0b111110000011111, 3, 5, 8 - 10);
        x.bits(0, 0);
        x.bits(0b010101, 6);
        Due.mind(x, 3, "try 0-edges*2-width*8+far*4;");
        widthsAre(x, 3, 3, 2);
        Due.mind(x, 3, "try 5+kind+cost+left+worn+other+place+twice+bare;");
        widthsAre(x, 3, 2, 3);
    }

    /** How many more edges the lesser of two WIDTHS has: twice that, and no less, lets it come first. */
    private static void edges(int n, int row, int lesser, int greater, int more) {
        GoldPlate x = new GoldPlate();
        x.bits(row, n);
        for (int by = 2 * more - 1; by <= 2 * more; by++) {
            String times = (by < 0 ? "-" : "+") + "width*" + Math.abs(by);
            Due.mind(x, 0, "try edges*" + 2 * (greater - lesser) + times + ";");
            due.is("edges of " + row + times, x.widths(0, 1), by == 2 * more ? lesser : greater);
        }
    }

    private static void laid() {
        GoldPlate x = new GoldPlate();
        Due.mind(x, 1, "twin 1;");
        Due.mind(x, 2, "twin 0;");
        x.bits(0b110010, 6);
        due.is("no grid", x.laid(0, 2, 0), NONE);
        x.grid(0b110010, 6);
        due.is("all agree", x.laid(0, 3, 0), 6);
        due.is("hand 0", x.laid(2, 3, 0), 6);
        due.is("hand 1 by 3", x.laid(1, 3, 0), 4);
        due.is("hand 1 by 2", x.laid(1, 2, 0), 4);
        due.is("not half", x.laid(0, 3, 1), 0);
        due.is("width 1", x.laid(0, 1, 0), NONE);
        due.is("width 6", x.laid(0, 6, 0), NONE);
        due.is("width 4", x.laid(0, 4, 0), NONE);
        due.is("width 0", x.laid(0, 0, 0), NONE);
        due.is("width below", x.laid(0, -2, 0), NONE);
        due.is("another what", x.laid(0, 2, 2), NONE);
        due.is("what below", x.laid(0, 2, -1), NONE);
        due.is("mind above", x.laid(6, 2, 0), NONE);
        due.is("mind below", x.laid(-1, 2, 0), NONE);
        x.bits(0, 0);
        x.bits(0b110000, 6);
        x.grid(0, 0);
        x.grid(0b101000, 6);
        due.is("half by 3", x.laid(0, 3, 1), 1);
        due.is("not half by 2", x.laid(0, 2, 1), 0);
        due.is("not half by hand 1", x.laid(1, 3, 1), 0);
        x.grid(0, 0);
        x.grid(0b001010, 6);
        due.is("half by hand 1", x.laid(1, 3, 1), 1);
        x.grid(0, 1);
        due.is("another number of bits", x.laid(0, 3, 1), NONE);
    }

    private static void beat() {
        GoldPlate x = new GoldPlate();
        int[][] wrong = {{0, 0, 0, 0}, {1000000, 0, 0, 0}, {1, -1, 0, 0}, {1, 10000, 0, 0}, {1, 0, -1, 0},
            {1, 0, 40, 0}, {1, 0, 0, -1}, {1, 0, 0, 40}};
        for (int[] w : wrong) {
            due.is("wrong beat", x.beat(w[0], w[1], w[2], w[3]), NONE);
        }
        due.is("least beat", x.beat(1, 0, 0, 0), 0);
        due.is("most beat", x.beat(999999, 9999, 39, 39), 1);
        for (int i = 2; i < 14; i++) {
            due.is("beat", x.beat(5, 5, 5, 5), i);
        }
        due.is("15th beat", x.beat(5, 5, 5, 5), NONE);
        due.is("beats", x.look(3), 14);
    }

    private static void found() {
        GoldPlate x = new GoldPlate();
        due.no("no such beat", x.found(0, 0, 0));
        x.beat(10, 0, 0, 0);
        due.no("beat above", x.found(1, 0, 0));
        due.no("beat below", x.found(-1, 0, 0));
        due.no("from below", x.found(0, -2, 5));
        due.no("to above", x.found(0, 0, 10000000));
        due.no("from above to", x.found(0, 6, 5));
        due.no("from above", x.found(0, 10000000, 10000000));
        due.is("nothing was found", x.years(2), 0);
        due.yes("one number", x.found(0, 10, 10));
        due.is("all years", x.years(2), 1000);
        due.no("wrong changes nothing", x.found(0, 11, 10));
        due.is("all years", x.years(2), 1000);
        due.yes("widest", x.found(0, 0, 9999999));
        due.yes("nothing", x.found(0, NONE, 0));
        due.is("nothing was found", x.years(2), 0);
    }

    private static void years() {
        GoldPlate x = new GoldPlate();
        due.is("no beats: first", x.years(0), NONE);
        due.is("no beats: last", x.years(1), NONE);
        due.is("another what", x.years(3), NONE);
        due.is("what below", x.years(-1), NONE);
        x.beat(3, 333333 % 10000, 0, 0);
        x.beat(999999, 9999, 0, 0);
        x.found(0, 3, 3);
        // 3 * 3333 * y / 1000000 is 0 up to y = 100: 9999 * 100 = 999900.
        due.is("downwards: first", x.years(0), 0);
        due.is("downwards: last", x.years(1), 100);
        due.is("downwards: how many", x.years(2), 101);
        x.found(0, NONE, 0);
        x.found(1, 9999999, 9999999);
        due.is("none fits: first", x.years(0), NONE);
        due.is("none fits: how many", x.years(2), 0);
        // 999999 * 9999 / 1000000 is 9998.99: year 900 is 8999091 behind the period.
        x.found(1, 999999 + 8999091, 999999 + 8999091);
        due.is("large ones: first", x.years(0), 900);
        due.is("large ones: last", x.years(1), 900);
        x.found(0, 5, 5);
        due.is("not in all", x.years(2), 0);
        x.found(0, 11, 12);
        due.is("in all", x.years(2), 1);
    }

    private static void farAndPlaces() {
        GoldPlate x = new GoldPlate();
        due.no("no such beat", x.far(0, 1));
        x.beat(1, 0, 0, 0);
        x.beat(1, 0, 39, 39);
        due.no("beat below", x.far(-1, 1));
        due.no("far above", x.far(0, 56));
        due.no("far below", x.far(0, -1));
        due.is("nothing is told", x.places(0, 0), 1600);
        due.yes("far", x.far(0, 1));
        due.is("root downwards", x.places(0, 0), 3);
        due.is("the first", x.places(0, 1), 1);
        due.is("with a doubt", x.places(1, 0), 9);
        due.is("itself, too", x.places(1, 1), 0);
        due.yes("far of both", x.far(1, 1));
        due.is("none", x.places(0, 0), 0);
        due.is("no first", x.places(0, 1), NONE);
        due.is("widest doubt", x.places(55, 0), 1600);
        due.yes("far of one", x.far(0, 0));
        due.is("first of the other", x.places(0, 1), 40 * 38 + 38);
        due.yes("farthest", x.far(1, 55));
        due.is("the far corner", x.places(0, 0), 1);
        due.is("is the first", x.places(0, 1), 0);
        due.is("doubt below", x.places(-1, 0), NONE);
        due.is("doubt above", x.places(56, 0), NONE);
        due.is("another what", x.places(0, 2), NONE);
        due.is("what below", x.places(0, -1), NONE);
        x.far(1, 0);
        due.is("nothing is told again", x.places(0, 0), 1600);
    }

    private static void told() {
        GoldPlate x = new GoldPlate();
        x.mark(0, 15, 1, 10, 0);
        x.mark(0, 15, 1, 10, 0);
        x.mark(1, 0, 1, 10, 1);
        x.tell(2, 0, 2);
        x.tell(1, 1, 1);
        Due.mind(x, 0, "sense 0;know 0;");
        due.is("all", x.told(0, 7), 32769);
        due.is("without what it needs", x.told(0, 5), 32768);
        due.is("none", x.told(0, 0), 0);
        due.is("marks that are not there", x.told(0, 65535), 32769);
        due.is("to an empty mind", x.told(1, 7), 32768);
        due.is("set above", x.told(0, 65536), NONE);
        due.is("set below", x.told(0, -1), NONE);
        due.is("mind above", x.told(6, 0), NONE);
        due.is("mind below", x.told(-1, 0), NONE);
        x.hard(1, 5);
        x.year(2);
        due.is("gone", x.told(0, 7), 32768);
    }

    private static void best() {
        GoldPlate x = new GoldPlate();
        x.mark(0, 0, 5, 10, 1);
        x.mark(0, 1, 5, 10, 2);
        x.mark(0, 2, 3, 10, 1);
        x.mark(0, 2, 3, 10, 1);
        x.mark(0, 2, 4, 10, 1);
        x.mark(0, 9, 4, 10, 3);
        x.tell(5, 0, 1);
        Due.mind(x, 0, "sense 0;");
        Due.mind(x, 1, "sense 1;");
        Due.mind(x, 2, "sense 0;sense 1;");
        due.is("nothing for nothing", x.best(0, 7, 0), 0);
        due.is("none told", x.best(0, 7, 1), 0);
        due.is("the cheapest, the least", x.best(3, 1, 0), 4);
        due.is("still the cheapest", x.best(4, 1, 0), 4);
        due.is("two for 8", x.best(8, 1, 0), 5);
        due.is("how many", x.best(8, 1, 1), 2);
        due.is("the cheapest of several", x.best(5, 5, 0), 4);
        due.is("needs what it costs", x.best(9, 4, 0), 5);
        due.is("three for 12", x.best(12, 4, 0), 1 + 4 + 32);
        due.is("to both", x.best(8, 3, 1), 2);
        due.is("the worst: set", x.best(8, 3, 2), 6);
        due.is("the worst: least", x.best(8, 3, 3), 1);
        due.is("the worst gets nothing", x.best(7, 3, 2), 0);
        due.is("the worst's least", x.best(7, 3, 3), 0);
        due.is("all", x.best(9999, 63, 1), 2 + 1 + 4);
        due.is("budget below", x.best(-1, 1, 0), NONE);
        due.is("budget above", x.best(10000, 1, 0), NONE);
        due.is("no minds", x.best(5, 0, 0), NONE);
        due.is("minds above", x.best(5, 64, 0), NONE);
        due.is("another what", x.best(5, 1, 4), NONE);
        due.is("what below", x.best(5, 1, -1), NONE);
        GoldPlate y = plain(16);
        due.is("the first twelve", y.best(9999, 63, 0), 4095);
        due.is("six times twelve", y.best(9999, 63, 1), 72);
        due.is("least of several as cheap", y.best(3, 63, 0), 7);
        due.is("the worst of the first twelve", y.best(9999, 63, 3), 12);
    }

    private static void never() {
        GoldPlate x = new GoldPlate();
        x.mark(0, 0, 1, 10, 1);
        x.mark(0, 1, 1, 10, 2);
        x.mark(0, 1, 1, 0, 0);
        x.mark(0, 4, 1, 10, 0);
        x.tell(3, 0, 1);
        Due.mind(x, 0, "sense 0;");
        Due.mind(x, 1, "sense 1;");
        due.is("one", x.never(0), 2);
        due.is("two", x.never(1), 17);
        due.is("all", x.never(2), 19);
        due.is("mind above", x.never(6), NONE);
        due.is("mind below", x.never(-1), NONE);
        GoldPlate y = plain(16);
        due.is("sixteen, too", y.never(0), 0);
        y.hard(0, 1);
        y.year(100);
        due.is("all sixteen gone", y.never(0), 65535);
    }

    private static void deeper() {
        GoldPlate x = new GoldPlate();
        x.mark(0, 0, 1, 50, 0);
        x.mark(1, 1, 1, 50, 0);
        x.mark(2, 2, 1, 50, 0);
        x.tell(2, 0, 2);
        x.hard(0, 10);
        x.hard(1, 10);
        due.is("none is gone", x.deeper(0, 4), NONE);
        due.is("that which lets two be told", x.deeper(0, 5), 1);
        due.is("100 more are enough", x.deeper(0, 14), 1);
        due.is("100 more are not enough", x.deeper(0, 15), NONE);
        due.is("year below", x.deeper(0, -1), NONE);
        due.is("year above", x.deeper(0, 1000), NONE);
        due.is("mind above", x.deeper(6, 0), NONE);
        due.is("mind below", x.deeper(-1, 0), NONE);
        x.tell(2, 0, 0);
        due.is("of several the least", x.deeper(0, 5), 0);
        x.year(999);
        due.is("the year that is told alone", x.deeper(0, 4), NONE);
        GoldPlate y = new GoldPlate();
        y.mark(0, 0, 1, 950, 0);
        y.hard(0, 1);
        due.is("950 and some", y.deeper(0, 998), 0);
        due.is("999 at most", y.deeper(0, 999), NONE);
        GoldPlate z = new GoldPlate();
        z.mark(0, 0, 1, 0, 0);
        due.is("what never was", z.deeper(0, 999), 0);
        due.is("year above", z.deeper(0, 1000), NONE);
        due.is("year below", z.deeper(0, -1), NONE);
        y.mark(1, 0, 1, 999, 0);
        due.is("things, not marks, are counted", y.deeper(0, 998), NONE);
    }

    private static void trial() {
        GoldPlate x = plain(11);
        x.tell(0, 2, 5);
        x.tell(1, 2, 5);
        x.tell(1, 3, 6);
        due.is("no mark", x.trial(0), NONE);
        x.put(0);
        due.is("below", x.trial(-1), NONE);
        due.is("above 3", x.trial(4), NONE);
        due.is("no second other", x.trial(3), NONE);
        due.is("first other", x.trial(2), 0);
        x.put(1);
        due.is("second other of the second", x.trial(4 * 3 + 2), 1);
        due.is("above 15", x.trial(16), NONE);
        x.put(2);
        due.is("no other of the third", x.trial(16 * 2), NONE);
        for (int i = 3; i < 10; i++) {
            x.put(i);
        }
        due.is("all right", x.trial(0x55555), 2);
        due.is("above ten digits", x.trial(1 << 20), NONE);
        due.is("far above", x.trial(MOST), NONE);
        x.put(10);
        due.is("eleven marks", x.trial(0), NONE);
        x.put(NONE);
        x.put(0);
        for (int i = 3; i < 40; i++) {
            due.is("trial", x.trial(0), i);
        }
        due.is("41st trial", x.trial(0), NONE);
        due.is("trials", x.look(4), 40);
    }

    private static void agrees() {
        GoldPlate x = plain(3);
        x.mark(0, 9, 1, 10, 1);
        x.tell(2, 2, 7);
        Due.mind(x, 0, "price bare;");
        Due.mind(x, 1, "price 2-other;");
        x.put(2);
        x.put(0);
        due.is("right", x.trial(5), 0);
        due.is("other", x.trial(2), 1);
        due.is("not read", x.trial(0), 2);
        due.is("who takes both right", x.agrees(0), 1);
        due.is("who takes one for another", x.agrees(1), 2);
        due.is("who reads nothing", x.agrees(2), 60);
        x.put(NONE);
        for (int i = 0; i < 4; i++) {
            x.put(i);
        }
        due.is("the message of then", x.agrees(0), 1);
        x.tell(2, 0, 1);
        due.is("the marks of now", x.agrees(0), 0);
        due.is("the first is bare", x.trial(0x15), 3);
        due.is("now it can be read", x.agrees(3), 1);
        Due.mind(x, 5, "price bare;");
        due.is("the minds of now", x.agrees(3), 33);
        due.is("no such trial", x.agrees(4), NONE);
        due.is("trial below", x.agrees(-1), NONE);
    }

    private static void ours() {
        GoldPlate x = plain(11);
        due.is("no trials", x.ours(63), 0);
        due.is("minds above", x.ours(64), NONE);
        due.is("minds below", x.ours(-1), NONE);
        x.put(5);
        x.put(2);
        x.put(3);
        due.is("no trials of it", x.ours(0), 0);
        x.trial(0x15);
        due.is("all three", x.ours(0), 32 + 4 + 8);
        x.trial(0x05);
        due.is("what all took right", x.ours(0), 32 + 4);
        due.is("minds that read nothing", x.ours(63), 32 + 4);
        Due.mind(x, 1, "price 2 when bare=1 and place=0;price 1-bare;");
        due.is("what a mind takes, too", x.ours(2), 4);
        due.is("another mind", x.ours(1), 32 + 4);
        due.is("both", x.ours(3), 4);
        x.put(NONE);
        x.put(2);
        x.put(5);
        x.put(3);
        due.is("another order is another message", x.ours(0), 0);
        x.put(NONE);
        x.put(5);
        x.put(2);
        due.is("a shorter one, too", x.ours(0), 0);
        x.put(3);
        due.is("the same again", x.ours(0), 32 + 4);
        for (int i = 0; i < 11; i++) {
            x.put(i);
        }
        due.is("eleven marks", x.ours(0), NONE);
        x.put(NONE);
        putAll(x, 10);
        x.trial(0x55555);
        due.is("ten marks", x.ours(1), 1023);
        GoldPlate y = plain(2);
        y.put(1);
        y.trial(1);
        y.put(0);
        due.is("mark 0 behind is another message", y.ours(0), 0);
    }

    private static void look() {
        GoldPlate x = plain(3);
        putAll(x, 2);
        x.bits(0, 4);
        x.grid(0, 9);
        for (int i = 0; i < 5; i++) {
            x.beat(1, 1, 1, 1);
        }
        for (int i = 0; i < 6; i++) {
            x.trial(0);
        }
        x.year(7);
        int[] want = {3, 2, 4, 5, 6, 7, NONE};
        for (int what = 0; what < want.length; what++) {
            due.is("look " + what, x.look(what), want[what]);
        }
        due.is("look below", x.look(-1), NONE);
    }
}
