/** Sentences of the document about BEATS, YEARS and PLACES that name an edge, each with its own test. */
public final class SkyEdgeTest {
    private static final int NONE = GoldPlate.NONE;
    private static final int LEAST = Integer.MIN_VALUE;
    private static final int MOST = Integer.MAX_VALUE;
    private static final Due due = new Due();

    public static void main(String[] args) {
        beatsAsTheyCome();
        beatFields();
        foundRange();
        foundNothing();
        foundWrong();
        nothingWasFound();
        yearsOfABeat();
        yearsDownwards();
        yearsOfLargeOnes();
        yearsOfAll();
        yearsWrong();
        farTold();
        farWrong();
        nothingTold();
        rootDownwards();
        doubts();
        placesOfAll();
        placesFirst();
        placesWrong();
        due.close();
    }

    private static void beatsAsTheyCome() {
        due.says("BEATS 0 .. 13 as they come; NONE if one can't be, or there are 14");
        GoldPlate x = new GoldPlate();
        for (int i = 0; i < 14; i++) {
            due.is("a wrong one takes no number", x.beat(0, 0, 0, 0), NONE);
            due.is("how many", x.look(3), i);
            due.is("the next", x.beat(1 + i, i, i, i), i);
        }
        due.is("the 15th", x.beat(1, 0, 0, 0), NONE);
        due.is("a wrong 15th", x.beat(1, 0, 0, 40), NONE);
        due.is("how many", x.look(3), 14);
        due.yes("the last is there", x.found(13, 14, 14));
        due.no("no more", x.found(14, 14, 14));
        due.is("it is the 14th", x.years(2), 1000);
    }

    private static int beaten(int field, int v) {
        int[] f = {9, 9, 9, 9};
        f[field] = v;
        GoldPlate x = new GoldPlate();
        int answer = x.beat(f[0], f[1], f[2], f[3]);
        due.is("BEATS then", x.look(3), answer == NONE ? 0 : 1);
        return answer;
    }

    private static void beatField(String sentence, int field, int least, int most) {
        due.says(sentence);
        due.is("least", beaten(field, least), 0);
        due.is("most", beaten(field, most), 0);
        for (int wrong : new int[] {least - 1, most + 1, LEAST, MOST}) {
            due.is("" + wrong, beaten(field, wrong), NONE);
        }
    }

    private static void beatFields() {
        beatField("a PERIOD 1 .. 999999", 0, 1, 999999);
        beatField("SLOWER by 0 .. 9999", 1, 0, 9999);
        beatField("a CELL x 0 .. 39", 2, 0, 39);
        beatField("a CELL y 0 .. 39", 3, 0, 39);
    }

    private static GoldPlate one(int period, int slower) {
        GoldPlate x = new GoldPlate();
        x.beat(period, slower, 0, 0);
        return x;
    }

    private static void yearsAre(GoldPlate x, int first, int last) {
        due.is("the first", x.years(0), first);
        due.is("the last", x.years(1), last);
        due.is("how many", x.years(2), first == NONE ? 0 : last - first + 1);
    }

    private static void foundRange() {
        due.says("What was found of a BEAT (0 .. 9999999, from not above to)");
        GoldPlate x = one(50, 0);
        due.yes("the widest", x.found(0, 0, 9999999));
        yearsAre(x, 0, 999);
        due.yes("least", x.found(0, 0, 0));
        yearsAre(x, NONE, NONE);
        due.yes("most", x.found(0, 9999999, 9999999));
        yearsAre(x, NONE, NONE);
        due.yes("from as to", x.found(0, 50, 50));
        yearsAre(x, 0, 999);
        for (int[] wrong : new int[][] {{51, 50}, {9999999, 0}, {1, 0}, {0, 10000000}, {10000000, 10000000}, {-2, 60},
            {0, -1}, {LEAST, 60}, {0, MOST}, {MOST, MOST}, {LEAST, LEAST}, {0, LEAST}}) {
            due.no("found " + wrong[0] + ", " + wrong[1], x.found(0, wrong[0], wrong[1]));
            yearsAre(x, 0, 999);
        }
    }

    private static void foundNothing() {
        due.says("from NONE: nothing");
        for (int to : new int[] {0, NONE, 9999999, 10000000, LEAST, MOST}) {
            GoldPlate x = one(50, 0);
            due.yes("nothing before", x.found(0, NONE, to));
            yearsAre(x, NONE, NONE);
            x.found(0, 50, 50);
            due.yes("nothing now", x.found(0, NONE, to));
            yearsAre(x, NONE, NONE);
            x.found(0, 0, 60);
            yearsAre(x, 0, 999);
        }
    }

    private static void foundWrong() {
        due.says("true; false if one can't be");
        GoldPlate x = new GoldPlate();
        due.no("no BEAT", x.found(0, 1, 1));
        due.no("no BEAT, nothing", x.found(0, NONE, 0));
        x.beat(1, 0, 0, 0);
        for (int wrong : new int[] {1, 13, 14, -1, LEAST, MOST}) {
            due.no("BEAT " + wrong, x.found(wrong, 1, 1));
            due.no("BEAT " + wrong + ", nothing", x.found(wrong, NONE, 1));
        }
        yearsAre(x, NONE, NONE);
    }

    private static void nothingWasFound() {
        due.says("NONE if there are none (0 for 2), nothing was found (likewise)");
        GoldPlate x = new GoldPlate();
        yearsAre(x, NONE, NONE);
        x.beat(5, 5, 0, 0);
        yearsAre(x, NONE, NONE);
        x.beat(5, 0, 0, 0);
        x.found(1, 6, 6);
        yearsAre(x, NONE, NONE);
        x.found(1, 5, 5);
        yearsAre(x, 0, 999);
    }

    private static void yearsOfABeat() {
        due.says("YEARS of a BEAT: all 0 .. 999 with PERIOD and PERIOD times SLOWER times YEAR by 1000000 within found");
        GoldPlate x = one(1000, 1000);
        // PERIOD is 1000 and YEAR.
        x.found(0, 1000, 1000);
        yearsAre(x, 0, 0);
        x.found(0, 0, 999);
        yearsAre(x, NONE, NONE);
        x.found(0, 0, 1000);
        yearsAre(x, 0, 0);
        x.found(0, 1999, 1999);
        yearsAre(x, 999, 999);
        x.found(0, 2000, 3000);
        yearsAre(x, NONE, NONE);
        x.found(0, 1999, 9999999);
        yearsAre(x, 999, 999);
        x.found(0, 1300, 1400);
        yearsAre(x, 300, 400);
        x.found(0, 0, 9999999);
        yearsAre(x, 0, 999);
        due.says("SLOWER by 0");
        GoldPlate y = one(1000, 0);
        y.found(0, 1000, 1000);
        yearsAre(y, 0, 999);
        y.found(0, 1001, 1001);
        yearsAre(y, NONE, NONE);
        y.found(0, 999, 999);
        yearsAre(y, NONE, NONE);
        due.says("YEARS have nothing to do with YEAR");
        x.found(0, 1300, 1400);
        x.year(999);
        yearsAre(x, 300, 400);
    }

    private static void yearsDownwards() {
        due.says("Quotients go downwards");
        // 100 * 30 * YEAR by 1000000: 333 years make 0.999, 334 make 1.002, 667 make 2.001.
        GoldPlate x = one(100, 30);
        x.found(0, 100, 100);
        yearsAre(x, 0, 333);
        x.found(0, 101, 101);
        yearsAre(x, 334, 666);
        x.found(0, 102, 102);
        yearsAre(x, 667, 999);
        x.found(0, 103, 103);
        yearsAre(x, NONE, NONE);
        // All is multiplied before it is parted: 1 * 2000 * 500 is one whole million.
        GoldPlate y = one(1, 2000);
        y.found(0, 2, 2);
        yearsAre(y, 500, 999);
    }

    private static void yearsOfLargeOnes() {
        due.says("PERIOD 999999, SLOWER 9999, YEAR 999");
        GoldPlate x = one(999999, 9999);
        long last = 999999 + 999999L * 9999 * 999 / 1000000;
        due.yes("the last is above what can be found", last > 9999999);
        x.found(0, 0, 9999999);
        // 999999 * 9999 * 900 by 1000000 is 8999091.0009, and 901 years are 9009089.991.
        yearsAre(x, 0, 900);
        x.found(0, 9999090, 9999090);
        yearsAre(x, 900, 900);
        x.found(0, 9999089, 9999089);
        yearsAre(x, NONE, NONE);
        // 500 years: 4999495.0005; ints would have wrapped long before.
        x.found(0, 999999 + 4999495, 999999 + 4999495);
        yearsAre(x, 500, 500);
        // 1 year: 9998.990001.
        x.found(0, 999999 + 9998, 999999 + 9998);
        yearsAre(x, 1, 1);
    }

    private static void yearsOfAll() {
        due.says("of all that were found together: the first and last YEAR that is in all");
        GoldPlate x = new GoldPlate();
        for (int i = 0; i < 14; i++) {
            x.beat(1000, 1000, 0, 0);
        }
        for (int i = 0; i < 14; i++) {
            x.found(i, 1000 + 10 * i, 1500 - 10 * i);
            yearsAre(x, 10 * i, 500 - 10 * i);
        }
        x.found(0, 1370, 1400);
        yearsAre(x, 370, 370);
        x.found(0, 1371, 1400);
        yearsAre(x, NONE, NONE);
        x.found(0, NONE, 0);
        yearsAre(x, 130, 370);
        x.found(13, NONE, 0);
        yearsAre(x, 120, 380);
    }

    private static void yearsWrong() {
        due.says("YEARS: NONE for another what");
        GoldPlate x = one(5, 0);
        x.found(0, 5, 5);
        for (int wrong : new int[] {3, -1, LEAST, MOST}) {
            due.is("what " + wrong, x.years(wrong), NONE);
        }
        yearsAre(x, 0, 999);
    }

    private static GoldPlate at(int x, int y) {
        GoldPlate g = new GoldPlate();
        g.beat(1, 0, x, y);
        return g;
    }

    private static void farTold() {
        due.says("told is FAR from us 0 .. 55 (0: not told, as at first)");
        GoldPlate x = at(0, 0);
        due.is("not told at first", x.places(0, 0), 1600);
        due.yes("55", x.far(0, 55));
        due.is("just the far corner", x.places(0, 0), 1);
        due.is("just the far corner", x.places(0, 1), 1599);
        due.yes("0", x.far(0, 0));
        due.is("not told any more", x.places(0, 0), 1600);
        due.yes("1", x.far(0, 1));
        due.is("two beside, one across", x.places(0, 0), 3);
    }

    private static void farWrong() {
        due.says("FAR of a BEAT: true; false if one can't be");
        GoldPlate x = new GoldPlate();
        due.no("no BEAT", x.far(0, 1));
        x.beat(1, 0, 0, 0);
        x.far(0, 1);
        for (int wrong : new int[] {56, -1, LEAST, MOST}) {
            due.no("FAR " + wrong, x.far(0, wrong));
        }
        for (int wrong : new int[] {1, 13, 14, -1, LEAST, MOST}) {
            due.no("BEAT " + wrong, x.far(wrong, 5));
        }
        due.is("it stays", x.places(0, 0), 3);
    }

    private static void nothingTold() {
        due.says("all CELLS, if nothing is told");
        GoldPlate x = new GoldPlate();
        for (int doubt : new int[] {0, 1, 55}) {
            due.is("no BEAT", x.places(doubt, 0), 1600);
            due.is("the first", x.places(doubt, 1), 0);
        }
        x.beat(1, 0, 20, 20);
        due.is("a BEAT without FAR", x.places(0, 0), 1600);
        x.beat(1, 0, 39, 39);
        x.far(1, 1);
        due.is("it is passed over", x.places(0, 0), 3);
        due.is("38, 38 is the first", x.places(0, 1), 40 * 38 + 38);
    }

    /** How many CELLS there are, as the sentence has it, with a root by trying. */
    private static int count(int bx, int by, int far, int doubt) {
        int cells = 0;
        for (int y = 0; y < 40; y++) {
            for (int x = 0; x < 40; x++) {
                int sum = (x - bx) * (x - bx) + (y - by) * (y - by);
                int root = 0;
                while ((root + 1) * (root + 1) <= sum) {
                    root++;
                }
                cells += Math.abs(root - far) <= doubt ? 1 : 0;
            }
        }
        return cells;
    }

    private static void rootDownwards() {
        due.says("DISTANCE (the ROOT, the greatest whole number whose square is not above it, of the squares' sum)");
        GoldPlate x = at(0, 0);
        int[][] cells = {{1, 1, 1}, {3, 4, 5}, {2, 2, 2}, {2, 3, 3}, {39, 39, 55}, {39, 0, 39}, {7, 24, 25}, {38, 39, 54}};
        for (int[] c : cells) {
            GoldPlate y = at(c[0], c[1]);
            y.beat(1, 0, 0, 0);
            // With FAR of both just as far as the corner 0, 0 is from the first, 0, 0 itself is no CELL.
            for (int far = c[2] - 1; far <= c[2] + 1; far++) {
                boolean told = far >= 1 && far <= 55 && y.far(0, far);
                if (told) {
                    due.is("is 0, 0 about " + far + " from " + c[0] + ", " + c[1], y.places(0, 1) == 0 ? 1 : 0,
                            far == c[2] ? 1 : 0);
                }
            }
        }
        for (int far = 1; far <= 55; far++) {
            x.far(0, far);
            due.is("FAR " + far, x.places(0, 0), count(0, 0, far, 0));
        }
    }

    private static void doubts() {
        due.says("not farther from that than a doubt (0 .. 55)");
        GoldPlate x = at(20, 5);
        for (int far = 1; far <= 55; far += 6) {
            x.far(0, far);
            for (int doubt : new int[] {0, 1, 2, far - 1, far, far + 1, 54, 55}) {
                int d = Math.min(55, doubt);
                due.is("FAR " + far + ", doubt " + d, x.places(d, 0), count(20, 5, far, d));
            }
        }
        GoldPlate y = at(0, 0);
        y.far(0, 1);
        due.is("0 is 1 from 1", y.places(1, 1), 0);
        due.is("0 is not 0 from 1", y.places(0, 1), 1);
        due.is("54 from 1: all but one", y.places(53, 0), 1599);
        due.is("54 from 1: all", y.places(54, 0), 1600);
        due.is("the greatest doubt", y.places(55, 0), 1600);
    }

    private static void placesOfAll() {
        due.says("to each with FAR told");
        GoldPlate x = new GoldPlate();
        x.beat(1, 0, 0, 0);
        x.beat(1, 0, 39, 0);
        x.beat(1, 0, 0, 39);
        x.far(0, 5);
        x.far(1, 36);
        // 3, 4 is 5 from the first and root of 36 * 36 + 4 * 4, 36, from the second.
        int both = x.places(0, 0);
        due.yes("some are left", both >= 1 && both < count(0, 0, 5, 0));
        x.far(2, 55);
        due.is("none is in all", x.places(0, 0), 0);
        due.is("no first", x.places(0, 1), NONE);
        x.far(2, 0);
        due.is("as before", x.places(0, 0), both);
        GoldPlate y = new GoldPlate();
        for (int i = 0; i < 14; i++) {
            y.beat(1, 0, i, 0);
            y.far(i, 30);
        }
        y.far(13, 1);
        due.is("the last of 14 counts", y.places(0, 0), 0);
    }

    private static void placesFirst() {
        due.says("1 the first (40 y + x)");
        GoldPlate x = at(10, 20);
        x.far(0, 3);
        // At row 17 the root of 9 and squares up to 6 is 3: x 8 .. 12.
        due.is("the first", x.places(0, 1), 40 * 17 + 8);
        GoldPlate y = at(39, 0);
        y.far(0, 39);
        due.is("the first row", y.places(0, 1), 0);
        GoldPlate z = at(0, 0);
        z.far(0, 39);
        due.is("the end of the first row", z.places(0, 1), 39);
        z.far(0, 40);
        // Root of 39 * 39 and y * y is 40 from y 9 on: 1521 and 81 are 1602.
        due.is("a later row", z.places(0, 1), 40 * 9 + 39);
    }

    private static void placesWrong() {
        due.says("NONE if there is none (for 1), one can't be, or another what");
        GoldPlate x = at(0, 0);
        for (int wrong : new int[] {56, -1, LEAST, MOST}) {
            due.is("doubt " + wrong, x.places(wrong, 0), NONE);
            due.is("doubt " + wrong, x.places(wrong, 1), NONE);
        }
        for (int wrong : new int[] {2, -1, LEAST, MOST}) {
            due.is("what " + wrong, x.places(0, wrong), NONE);
        }
        x.beat(1, 0, 0, 0);
        x.far(0, 1);
        x.far(1, 55);
        due.is("none: how many", x.places(0, 0), 0);
        due.is("none: the first", x.places(0, 1), NONE);
    }
}
