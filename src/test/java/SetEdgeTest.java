/** Sentences of the document about SETS of MARKS, NEVER, DEEPER, TRIALS and OURS that name an edge. */
public final class SetEdgeTest {
    private static final int NONE = GoldPlate.NONE;
    private static final int LEAST = Integer.MIN_VALUE;
    private static final int MOST = Integer.MAX_VALUE;
    private static final Due due = new Due();

    public static void main(String[] args) {
        toldByASet();
        toldWrong();
        bestCostsNoMore();
        bestCountsEachMind();
        bestNeedsStand();
        bestCheapestThenLeast();
        bestEmptySet();
        bestOfTheFirstTwelve();
        worstBest();
        bestWrong();
        never();
        neverWrong();
        deeperCounts();
        deeperByAHundred();
        deeperOfSeveral();
        deeperOfEachMind();
        deeperWrong();
        trialsAsTheyCome();
        trialDigits();
        trialOthers();
        trialMessages();
        agreesNow();
        agreesWrong();
        oursOfAllTrials();
        oursOfTheSameMessage();
        oursAndMinds();
        oursOfOnePlace();
        oursWrong();
        due.close();
    }

    /** An object with so many MARKS of kind 0, each with its own THING, cost 1, DEPTH 100, no SENSES. */
    private static GoldPlate plain(int marks) {
        GoldPlate x = new GoldPlate();
        for (int i = 0; i < marks; i++) {
            x.mark(0, i, 1, 100, 0);
        }
        return x;
    }

    private static void putAll(GoldPlate x, int marks) {
        x.put(NONE);
        for (int i = 0; i < marks; i++) {
            x.put(i);
        }
    }

    private static void toldByASet() {
        due.says("TOLD are THINGS of MARKS that it could take RIGHT, if just these stood in a row by number");
        GoldPlate x = plain(16);
        due.is("none", x.told(0, 0), 0);
        due.is("all", x.told(0, 65535), 65535);
        for (int i = 0; i < 16; i++) {
            due.is("one", x.told(0, 1 << i), 1 << i);
        }
        x.tell(15, 0, 1 << 14);
        due.is("just these: what it needs is not there", x.told(0, 1 << 15), 0);
        due.is("just these: both", x.told(0, 3 << 14), 3 << 14);
        x.tell(14, 0, 1);
        due.is("what it needs needs another", x.told(0, 3 << 14), 0);
        due.is("all three", x.told(0, (3 << 14) + 1), (3 << 14) + 1);
        x.tell(0, 1, 1);
        due.is("a FACT of the first", x.told(0, (3 << 14) + 1), 0);
        x.put(15);
        due.is("whatever THE MESSAGE is", x.told(0, 2), 2);
        GoldPlate y = new GoldPlate();
        y.mark(0, 7, 1, 5, 1);
        y.mark(1, 7, 1, 5, 0);
        y.tell(0, 2, 3);
        due.is("one THING of two MARKS", y.told(0, 3), 128);
        due.is("a SENSE is lacking, OTHERS don't tell", y.told(0, 1), 0);
        y.hard(1, 5);
        y.year(1);
        due.is("GONE", y.told(0, 3), 0);
        for (int gone = 0; gone < 7; gone++) {
            GoldPlate z = new GoldPlate();
            for (int i = 0; i < 7; i++) {
                z.mark(i, i, 1, 5, 0);
            }
            z.hard(gone, 5);
            z.year(1);
            due.is("just " + gone + " is GONE", z.told(0, 127), 127 - (1 << gone));
            due.is(gone + " by itself", z.told(0, 1 << gone), 0);
        }
    }

    private static void toldWrong() {
        due.says("a set of MARKS (0 .. 65535); NONE if one can't be");
        GoldPlate x = plain(2);
        due.is("least", x.told(0, 0), 0);
        due.is("most: MARKS that are not there tell nothing", x.told(0, 65535), 3);
        due.is("none of these is there", x.told(5, 65532), 0);
        for (int wrong : new int[] {65536, -1, LEAST, MOST}) {
            due.is("set " + wrong, x.told(0, wrong), NONE);
        }
        for (int wrong : new int[] {6, -1, LEAST, MOST}) {
            due.is("MIND " + wrong, x.told(wrong, 1), NONE);
        }
    }

    private static void bestIs(GoldPlate x, int budget, int minds, int set, int score) {
        due.is("the set for " + budget, x.best(budget, minds, 0), set);
        due.is("how many for " + budget, x.best(budget, minds, 1), score);
    }

    private static void worstIs(GoldPlate x, int budget, int minds, int set, int least) {
        due.is("WORST-BEST's set for " + budget, x.best(budget, minds, 2), set);
        due.is("its least for " + budget, x.best(budget, minds, 3), least);
    }

    private static void bestCostsNoMore() {
        due.says("of all sets of MARKS that cost no more that by which most THINGS are TOLD");
        GoldPlate x = new GoldPlate();
        x.mark(0, 0, 99, 9, 0);
        x.mark(0, 1, 30, 9, 0);
        x.mark(0, 2, 30, 9, 0);
        x.tell(2, 0, 2);
        bestIs(x, 0, 1, 0, 0);
        bestIs(x, 29, 1, 0, 0);
        bestIs(x, 30, 1, 2, 1);
        bestIs(x, 59, 1, 2, 1);
        bestIs(x, 60, 1, 6, 2);
        bestIs(x, 158, 1, 6, 2);
        bestIs(x, 159, 1, 7, 3);
        bestIs(x, 9999, 1, 7, 3);
        GoldPlate dear = new GoldPlate();
        for (int i = 0; i < 12; i++) {
            dear.mark(0, i, 99, 9, 0);
        }
        bestIs(dear, 12 * 99, 1, 4095, 12);
        bestIs(dear, 12 * 99 - 1, 1, 2047, 11);
    }

    private static void bestCountsEachMind() {
        due.says("TOLD to all these MINDS together (each counted by itself)");
        GoldPlate x = new GoldPlate();
        x.mark(0, 5, 1, 9, 1);
        x.mark(0, 6, 1, 9, 2);
        x.mark(0, 5, 1, 9, 2);
        for (int k = 0; k < 6; k++) {
            Due.mind(x, k, k < 2 ? "sense 0;" : k < 5 ? "sense 1;" : "sense 0;sense 1;");
        }
        bestIs(x, 1, 1, 1, 1);
        bestIs(x, 1, 4, 2, 1);
        bestIs(x, 1, 3, 1, 2);
        bestIs(x, 1, 15, 1, 2);
        bestIs(x, 1, 31, 2, 3);
        bestIs(x, 1, 63, 2, 4);
        bestIs(x, 2, 63, 6, 8);
        bestIs(x, 3, 63, 7, 2 * 1 + 3 * 2 + 2);
        bestIs(x, 9, 32, 3, 2);
    }

    private static void bestNeedsStand() {
        due.says("TOLD: MARKS that it could take RIGHT, if just these stood in a row: of each MIND its own");
        GoldPlate x = new GoldPlate();
        x.mark(0, 0, 50, 9, 0);
        x.mark(0, 1, 1, 9, 1);
        x.mark(0, 2, 1, 9, 0);
        x.tell(2, 0, 1);
        Due.mind(x, 0, "sense 0;");
        // What 2 needs is too dear, whatever MIND 1 lacks for MARK 1.
        bestIs(x, 10, 3, 2, 1);
        bestIs(x, 50, 3, 1, 2);
        bestIs(x, 51, 3, 5, 4);
        bestIs(x, 52, 3, 7, 5);
        worstIs(x, 10, 3, 0, 0);
        worstIs(x, 50, 3, 1, 1);
        worstIs(x, 52, 3, 5, 2);
        x.tell(2, 0, 2);
        // MIND 0 alone has what 2 needs.
        bestIs(x, 10, 3, 6, 2);
        worstIs(x, 10, 3, 0, 0);
        bestIs(x, 10, 2, 0, 0);
        bestIs(x, 10, 1, 6, 2);
    }

    private static void bestCheapestThenLeast() {
        due.says("of several the cheapest, then the least as a number");
        GoldPlate x = new GoldPlate();
        x.mark(0, 0, 9, 9, 0);
        x.mark(0, 0, 8, 9, 0);
        x.mark(0, 0, 7, 9, 0);
        x.mark(0, 0, 7, 9, 0);
        x.mark(0, 0, 8, 9, 0);
        bestIs(x, 99, 1, 4, 1);
        worstIs(x, 99, 1, 4, 1);
        GoldPlate y = new GoldPlate();
        y.mark(0, 0, 5, 9, 0);
        y.mark(0, 1, 6, 9, 0);
        y.mark(0, 2, 5, 9, 0);
        y.mark(0, 3, 4, 9, 0);
        bestIs(y, 9, 1, 8 + 1, 2);
        bestIs(y, 11, 1, 8 + 1, 2);
        bestIs(y, 13, 1, 8 + 1, 2);
        bestIs(y, 14, 1, 8 + 4 + 1, 3);
        GoldPlate z = new GoldPlate();
        z.mark(0, 0, 3, 9, 0);
        z.mark(0, 1, 1, 9, 0);
        z.mark(0, 2, 2, 9, 0);
        z.mark(0, 3, 4, 9, 0);
        z.tell(3, 0, 2);
        // For 5: 0 and 1 for 4, 0 and 2 for 5, 1 and 2 for 3, 1 and 3 for 5.
        bestIs(z, 5, 1, 6, 2);
        GoldPlate even = new GoldPlate();
        even.mark(0, 0, 4, 9, 0);
        even.mark(0, 1, 3, 9, 0);
        even.mark(0, 2, 3, 9, 0);
        even.mark(0, 3, 2, 9, 0);
        // For 6: 0 and 3 (9), 1 and 2 (6) cost 6, 1 and 3 cost 5.
        bestIs(even, 6, 1, 10, 2);
        even.tell(3, 0, 1);
        bestIs(even, 6, 1, 6, 2);
    }

    private static void bestEmptySet() {
        due.says("(the empty one, too)");
        GoldPlate x = new GoldPlate();
        bestIs(x, 0, 1, 0, 0);
        bestIs(x, 9999, 63, 0, 0);
        worstIs(x, 9999, 63, 0, 0);
        x.mark(0, 0, 1, 9, 1);
        bestIs(x, 9999, 63, 0, 0);
        worstIs(x, 9999, 63, 0, 0);
        Due.mind(x, 0, "sense 0;");
        bestIs(x, 9999, 63, 1, 1);
        worstIs(x, 9999, 63, 0, 0);
        worstIs(x, 9999, 1, 1, 1);
        bestIs(x, 9999, 62, 0, 0);
        x.hard(0, 9);
        x.year(1);
        bestIs(x, 9999, 1, 0, 0);
    }

    private static void bestOfTheFirstTwelve() {
        due.says("(of the first twelve)");
        GoldPlate x = plain(12);
        bestIs(x, 9999, 1, 4095, 12);
        GoldPlate y = new GoldPlate();
        for (int i = 0; i < 16; i++) {
            y.mark(0, i, i < 11 ? 50 : 1, 9, 0);
        }
        bestIs(y, 1, 1, 1 << 11, 1);
        bestIs(y, 4, 1, 1 << 11, 1);
        bestIs(y, 9999, 63, 4095, 72);
        worstIs(y, 9999, 63, 4095, 12);
    }

    private static void worstBest() {
        due.says("WORST-BEST: that with the greatest least");
        GoldPlate x = new GoldPlate();
        x.mark(0, 0, 1, 9, 1);
        x.mark(0, 1, 1, 9, 1);
        x.mark(0, 2, 1, 9, 1);
        x.mark(0, 3, 5, 9, 2);
        Due.mind(x, 0, "sense 0;");
        Due.mind(x, 1, "sense 1;");
        Due.mind(x, 2, "sense 0;sense 1;");
        bestIs(x, 6, 3, 7, 3);
        worstIs(x, 6, 3, 9, 1);
        worstIs(x, 5, 3, 0, 0);
        worstIs(x, 99, 3, 9, 1);
        worstIs(x, 99, 1, 7, 3);
        worstIs(x, 99, 7, 9, 1);
        worstIs(x, 99, 5, 7, 3);
        worstIs(x, 99, 4, 15, 4);
        worstIs(x, 99, 63, 0, 0);
        x.mark(0, 4, 1, 9, 0);
        worstIs(x, 99, 63, 16, 1);
        worstIs(x, 7, 3, 25, 2);
        worstIs(x, 6, 3, 16, 1);
        worstIs(x, 99, 2, 24, 2);
    }

    private static void bestWrong() {
        due.says("a budget (0 .. 9999) and a set of MINDS (1 .. 63): NONE if one can't be, or another what");
        GoldPlate x = plain(2);
        bestIs(x, 0, 1, 0, 0);
        bestIs(x, 9999, 63, 3, 12);
        for (int what = 0; what < 4; what++) {
            for (int wrong : new int[] {-1, 10000, LEAST, MOST}) {
                due.is("budget " + wrong, x.best(wrong, 1, what), NONE);
            }
            for (int wrong : new int[] {0, 64, -1, LEAST, MOST}) {
                due.is("MINDS " + wrong, x.best(5, wrong, what), NONE);
            }
        }
        for (int wrong : new int[] {4, -1, LEAST, MOST}) {
            due.is("what " + wrong, x.best(5, 1, wrong), NONE);
        }
    }

    private static void never() {
        due.says("NEVER: THINGS of MARKS that no set of MARKS tells a MIND: of all THINGS that some MARK tells");
        GoldPlate x = new GoldPlate();
        due.is("no MARKS", x.never(0), 0);
        x.mark(0, 15, 1, 9, 1);
        due.is("a SENSE is lacking", x.never(0), 32768);
        x.mark(0, 15, 1, 9, 0);
        due.is("another MARK tells it", x.never(0), 0);
        x.mark(0, 0, 1, 9, 0);
        x.tell(2, 0, 1);
        due.is("it needs what can't be seen", x.never(0), 1);
        x.tell(2, 0, 2);
        due.is("it needs what can be seen", x.never(0), 0);
        x.tell(1, 1, 2);
        due.is("a FACT is lacking, on and on", x.never(0), 32769);
        Due.mind(x, 5, "know 1;");
        due.is("the FACT is had", x.never(5), 0);
        x.tell(2, 2, 9);
        due.is("an OTHER is told by none", x.never(5), 0);
        GoldPlate y = plain(16);
        due.is("sixteen: none", y.never(0), 0);
        for (int i = 0; i < 16; i++) {
            y.tell(i, 1, 1);
        }
        due.is("sixteen: all", y.never(0), 65535);
        Due.mind(y, 0, "know 0;");
        due.is("all are told", y.never(0), 0);
        y.hard(0, 50);
        y.year(2);
        due.is("all are GONE", y.never(0), 65535);
    }

    private static void neverWrong() {
        due.says("NEVER: NONE if there is none such");
        GoldPlate x = plain(1);
        for (int wrong : new int[] {6, -1, LEAST, MOST}) {
            due.is("MIND " + wrong, x.never(wrong), NONE);
        }
        due.is("MIND 5", x.never(5), 0);
    }

    private static void deeperCounts() {
        due.says("DEEPER: lets most THINGS be TOLD by all MARKS to a MIND at a told YEAR, counted");
        GoldPlate x = new GoldPlate();
        for (int i = 0; i < 5; i++) {
            x.mark(i < 2 ? i : 2, i, 1, 50, 0);
        }
        x.hard(0, 1);
        x.hard(1, 1);
        x.tell(2, 0, 1);
        x.tell(3, 0, 2);
        x.tell(4, 0, 8);
        due.is("none is GONE", x.deeper(0, 49), NONE);
        due.is("1 lets three be told, 0 two", x.deeper(0, 50), 1);
        x.tell(4, 0, 4);
        due.is("0 lets three be told", x.deeper(0, 50), 0);
        x.tell(4, 0, 5);
        due.is("still 0", x.deeper(0, 50), 0);
        x.tell(4, 0, 11);
        due.is("both let two be told", x.deeper(0, 50), 0);
        x.year(50);
        due.is("the YEAR that is told counts", x.deeper(0, 0), NONE);
        x.year(0);
        due.is("not that which is", x.deeper(0, 50), 0);
        due.says("THINGS counted, not MARKS");
        GoldPlate y = new GoldPlate();
        y.mark(0, 3, 1, 50, 0);
        y.mark(1, 3, 1, 50, 0);
        y.hard(0, 1);
        due.is("the THING is told by another", y.deeper(0, 50), NONE);
        y.hard(1, 1);
        due.is("none tells it", y.deeper(0, 50), 0);
    }

    private static GoldPlate deep(int depth) {
        GoldPlate x = new GoldPlate();
        x.mark(0, 0, 1, depth, 0);
        x.hard(0, 1);
        return x;
    }

    private static void deeperByAHundred() {
        due.says("if its DEPTH were 100 more (999 at most)");
        int[] depths = {0, 1, 500, 899, 900, 950, 998, 999};
        for (int d : depths) {
            int more = Math.min(999, d + 100);
            GoldPlate x = deep(d);
            for (int year : new int[] {d - 1, d, d + 1, more - 1, more, 999}) {
                if (year >= 0 && year <= 999) {
                    due.is("DEPTH " + d + " in " + year, x.deeper(0, year), year >= d && year < more ? 0 : NONE);
                }
            }
            due.is("its DEPTH stays", x.of(0, 0), d);
        }
        due.is("999 has 0 LEFT in 999", deep(999).deeper(0, 999), NONE);
        GoldPlate never = new GoldPlate();
        never.mark(0, 0, 1, 0, 0);
        due.is("without HARD in any YEAR", never.deeper(0, 999), 0);
    }

    private static void deeperOfSeveral() {
        due.says("of several the least; NONE if none lets more than are TOLD without");
        GoldPlate x = plain(16);
        due.is("all are told", x.deeper(0, 999), NONE);
        x.hard(0, 1);
        due.is("all sixteen alike", x.deeper(0, 100), 0);
        x.tell(0, 1, 1);
        due.is("0 lacks a FACT", x.deeper(0, 100), 1);
        due.is("100 more are not enough", x.deeper(0, 200), NONE);
        Due.mind(x, 3, "know 0;");
        due.is("another MIND", x.deeper(3, 100), 0);
        for (int i = 1; i < 16; i++) {
            x.tell(i, 0, 1);
        }
        due.is("two must be deeper", x.deeper(0, 100), NONE);
        due.is("one is not enough for those that need it", x.deeper(3, 100), 0);
        GoldPlate y = new GoldPlate();
        for (int i = 0; i < 16; i++) {
            y.mark(i == 15 ? 1 : 0, i, 1, 100, 0);
        }
        y.hard(1, 1);
        due.is("the last of sixteen", y.deeper(0, 100), 15);
    }

    private static void deeperOfEachMind() {
        due.says("NONE if none lets more than are TOLD without: to that MIND");
        for (int k = 0; k < 6; k++) {
            GoldPlate x = plain(3);
            x.mark(1, 9, 1, 50, 0);
            x.hard(1, 1);
            for (int i = 0; i < 3; i++) {
                x.tell(i, 1, 1);
            }
            for (int other = 0; other < 6; other++) {
                Due.mind(x, other, other == k ? "" : "know 0;");
            }
            due.is("one where none is told, MIND " + k, x.deeper(k, 50), 3);
            x.tell(3, 1, 2);
            due.is("none where none is told", x.deeper(k, 50), NONE);
            due.is("none where three are told", x.deeper((k + 1) % 6, 50), NONE);
            Due.mind(x, k, "know 1;");
            due.is("the fourth, where just it can be told", x.deeper(k, 50), 3);
            Due.mind(x, k, "know 0;know 1;");
            due.is("the fourth, where three are told", x.deeper(k, 50), 3);
            due.is("all four are told", x.deeper(k, 49), NONE);
            due.is("the others lack the FACT", x.deeper((k + 1) % 6, 50), NONE);
        }
    }

    private static void deeperWrong() {
        due.says("DEEPER: NONE if there is none, or one can't be");
        GoldPlate x = deep(0);
        due.is("it can be", x.deeper(5, 99), 0);
        due.is("YEAR 0", x.deeper(0, 0), 0);
        x.hard(0, 0);
        due.is("YEAR 999", x.deeper(0, 999), 0);
        for (int wrong : new int[] {1000, -1, LEAST, MOST}) {
            due.is("YEAR " + wrong, x.deeper(0, wrong), NONE);
        }
        for (int wrong : new int[] {6, -1, LEAST, MOST}) {
            due.is("MIND " + wrong, x.deeper(wrong, 0), NONE);
        }
        due.is("no MARKS", new GoldPlate().deeper(0, 0), NONE);
    }

    private static void trialsAsTheyCome() {
        due.says("TRIALS 0 .. 39 as they come; NONE if one can't be, or there are 40");
        GoldPlate x = plain(1);
        x.put(0);
        for (int i = 0; i < 40; i++) {
            due.is("a wrong one takes no number", x.trial(4), NONE);
            due.is("how many", x.look(4), i);
            due.is("the next", x.trial(i % 2), i);
        }
        due.is("the 41st", x.trial(0), NONE);
        due.is("how many", x.look(4), 40);
        Due.mind(x, 0, "price bare;");
        due.is("the last", x.agrees(39), 1);
        due.is("the last but one", x.agrees(38), 62);
    }

    private static void trialDigits() {
        due.says("TAKINGS 0 .. 3 as digits to the base 4; above 4 to the number of MARKS less 1: NONE");
        GoldPlate x = plain(10);
        for (int i = 0; i < 10; i++) {
            x.tell(i, 2, 14);
            x.tell(i, 3, 15);
        }
        int trials = 0;
        for (int size = 1; size <= 10; size++) {
            x.put(size - 1);
            int power = 1 << (2 * size);
            due.is("the most of " + size, x.trial(power - 1), trials);
            due.is("0 of " + size, x.trial(0), trials + 1);
            trials += 2;
            for (int wrong : new int[] {power, power + 1, -1, LEAST, MOST}) {
                due.is(wrong + " of " + size, x.trial(wrong), NONE);
            }
        }
        due.is("how many", x.look(4), trials);
        due.says("that of the first MARK the lowest");
        GoldPlate y = plain(3);
        Due.mind(y, 0, "price bare when place=0;price 1-bare;");
        Due.mind(y, 1, "price bare when place=2;price 1-bare;");
        y.put(2);
        y.put(1);
        y.put(0);
        due.is("the first RIGHT", y.trial(1), 0);
        due.is("the last RIGHT", y.trial(16), 1);
        due.is("the first one", y.agrees(0), 1);
        due.is("the last one", y.agrees(1), 2);
    }

    private static void trialOthers() {
        due.says("an OTHER that there is not: NONE");
        GoldPlate x = plain(2);
        x.put(1);
        x.put(0);
        x.tell(1, 2, 5);
        due.is("first of the first", x.trial(2), 0);
        due.is("second of the first", x.trial(3), NONE);
        due.is("first of the second", x.trial(8), NONE);
        due.is("second of the second", x.trial(12), NONE);
        x.tell(1, 3, 6);
        due.is("second of the first", x.trial(3), 1);
        x.tell(0, 2, 5);
        due.is("first of the second", x.trial(8 + 3), 2);
        due.is("second of the second", x.trial(12 + 3), NONE);
        due.says("RIGHT and not read can be told, whatever can be seen");
        x.tell(0, 1, 255);
        x.hard(0, 99);
        x.year(999);
        due.is("GONE", x.trial(5), 3);
        due.is("GONE, as OTHERS", x.trial(8 + 2), 4);
    }

    private static void trialMessages() {
        due.says("NONE if one can't be (no MARK; more than ten)");
        GoldPlate x = plain(11);
        due.is("no MARK", x.trial(0), NONE);
        due.is("no MARK", x.trial(1), NONE);
        putAll(x, 10);
        due.is("ten", x.trial(0x55555), 0);
        x.put(10);
        due.is("eleven", x.trial(0), NONE);
        due.is("eleven", x.trial(0x55555), NONE);
        x.put(NONE);
        due.is("none again", x.trial(0), NONE);
        due.is("how many", x.look(4), 1);
    }

    private static void agreesNow() {
        due.says("A MIND AGREES with one, if that is THE CHEAPEST of it for that MESSAGE now");
        GoldPlate x = plain(11);
        x.put(0);
        x.trial(1);
        x.put(1);
        x.trial(5);
        due.is("nobody takes it RIGHT", x.agrees(0), 0);
        for (int k = 0; k < 6; k++) {
            Due.mind(x, k, "price bare;");
            due.is("up to MIND " + k, x.agrees(0), (2 << k) - 1);
            due.is("up to MIND " + k, x.agrees(1), (2 << k) - 1);
        }
        putAll(x, 11);
        due.is("THE MESSAGE has eleven now", x.agrees(1), 63);
        x.put(NONE);
        due.is("THE MESSAGE is empty now", x.agrees(1), 63);
        due.is("and stays so", x.look(1), 0);
        x.tell(1, 1, 1);
        due.is("a FACT is lacking now", x.agrees(1), 0);
        due.is("not for the first", x.agrees(0), 63);
        x.hard(0, 1);
        x.year(100);
        due.is("all is GONE now", x.agrees(0), 0);
        GoldPlate y = plain(10);
        putAll(y, 10);
        y.trial(0x55555);
        y.trial(0x55554);
        Due.mind(y, 2, "price bare;");
        due.is("ten, all RIGHT", y.agrees(0), 4);
        due.is("ten, all but one", y.agrees(1), 0);
        due.says("an OTHER that was told and is no more");
        GoldPlate z = plain(1);
        z.tell(0, 2, 5);
        z.put(0);
        z.trial(2);
        Due.mind(z, 0, "price 1-other;");
        due.is("it is there", z.agrees(0), 1);
        z.tell(0, 2, NONE);
        due.is("it is not", z.agrees(0), 0);
    }

    private static void agreesWrong() {
        due.says("AGREES: NONE if there is none such");
        GoldPlate x = plain(1);
        due.is("no TRIALS", x.agrees(0), NONE);
        x.put(0);
        x.trial(0);
        due.is("it is there", x.agrees(0), 63);
        for (int wrong : new int[] {1, 39, 40, -1, LEAST, MOST}) {
            due.is("TRIAL " + wrong, x.agrees(wrong), NONE);
        }
    }

    private static void oursOfAllTrials() {
        due.says("OURS: MARKS that all TRIALS of the same MESSAGE as now took RIGHT");
        GoldPlate x = plain(10);
        for (int i = 9; i >= 0; i--) {
            x.put(i);
        }
        x.trial(0x55555);
        due.is("all ten", x.ours(0), 1023);
        x.trial(0x55554);
        due.is("all but that at place 0", x.ours(0), 511);
        x.tell(0, 2, 15);
        x.trial(0x95555);
        due.is("an OTHER is not RIGHT", x.ours(0), 510);
        x.trial(0x55555);
        due.is("it stays so", x.ours(0), 510);
        x.trial(0);
        due.is("none", x.ours(0), 0);
    }

    private static void oursOfTheSameMessage() {
        due.says("0 without TRIALS of this MESSAGE");
        GoldPlate x = plain(3);
        due.is("an empty message", x.ours(0), 0);
        due.is("an empty message", x.ours(63), 0);
        x.put(0);
        due.is("none yet", x.ours(0), 0);
        x.trial(1);
        due.is("one", x.ours(0), 1);
        x.put(1);
        due.is("longer", x.ours(0), 0);
        x.trial(4);
        due.is("its own", x.ours(0), 2);
        x.put(NONE);
        due.is("empty", x.ours(0), 0);
        x.put(1);
        due.is("another MARK", x.ours(0), 0);
        x.put(0);
        due.is("another order", x.ours(0), 0);
        x.put(NONE);
        x.put(0);
        due.is("the same again", x.ours(0), 1);
        x.put(2);
        due.is("another second", x.ours(0), 0);
        GoldPlate zero = plain(2);
        zero.put(1);
        zero.trial(1);
        zero.put(0);
        due.is("MARK 0 behind it", zero.ours(0), 0);
        zero.trial(1);
        zero.trial(5);
        due.is("of both the first", zero.ours(0), 2);
        zero.put(NONE);
        zero.put(1);
        zero.trial(0);
        due.is("the shorter one has a second now", zero.ours(0), 0);
    }

    private static void oursAndMinds() {
        due.says("and of MINDS of a told set none does in THE CHEAPEST");
        GoldPlate x = plain(6);
        putAll(x, 6);
        x.trial(0x555);
        for (int k = 0; k < 6; k++) {
            Due.mind(x, k, "price bare when place=" + k + ";price 1-bare;");
        }
        for (int minds = 0; minds < 64; minds++) {
            due.is("MINDS " + minds, x.ours(minds), 63 - minds);
        }
        Due.mind(x, 0, "price bare when place=5;price 1-bare;");
        due.is("two MINDS take the same", x.ours(33), 31);
        x.tell(5, 1, 1);
        due.is("now neither can", x.ours(33), 63);
        x.put(NONE);
        due.is("no MESSAGE", x.ours(63), 0);
    }

    private static void oursOfOnePlace() {
        due.says("none does in THE CHEAPEST: where just one MARK was taken RIGHT by all TRIALS");
        for (int place = 0; place < 10; place++) {
            GoldPlate x = plain(10);
            putAll(x, 10);
            x.trial(1 << 2 * place);
            Due.mind(x, 5, "price bare when place=" + place + ";price 1-bare;");
            Due.mind(x, 4, "price 1-bare when place=" + place + ";price bare;");
            due.is("no MIND, place " + place, x.ours(0), 1 << place);
            due.is("a MIND that takes just this one RIGHT", x.ours(32), 0);
            due.is("a MIND that takes just the others RIGHT", x.ours(16), 1 << place);
            due.is("both", x.ours(48), 0);
        }
    }

    private static void oursWrong() {
        due.says("a set of MINDS (0 .. 63); NONE if one can't be (more than ten MARKS)");
        GoldPlate x = plain(11);
        for (int wrong : new int[] {64, -1, LEAST, MOST}) {
            due.is("MINDS " + wrong + ", no TRIALS", x.ours(wrong), NONE);
        }
        putAll(x, 10);
        x.trial(0x55555);
        for (int wrong : new int[] {64, -1, LEAST, MOST}) {
            due.is("MINDS " + wrong, x.ours(wrong), NONE);
        }
        due.is("0", x.ours(0), 1023);
        due.is("63", x.ours(63), 1023);
        x.put(10);
        due.is("eleven MARKS", x.ours(0), NONE);
        due.is("eleven MARKS", x.ours(63), NONE);
        x.put(NONE);
        due.is("none", x.ours(0), 0);
    }
}
