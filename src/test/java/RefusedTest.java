import java.util.ArrayList;
import java.util.List;

/**
 * What is refused changes nothing, and neither does what only asks. Two objects come by the same calls, one of them
 * gets one call more; then both are asked for all that they can answer. Each has 512 calls at most.
 */
public final class RefusedTest {
    private static final int NONE = GoldPlate.NONE;
    private static final int NO_SUCH = -1000000;
    private static final int LEAST = Integer.MIN_VALUE;
    private static final int MOST = Integer.MAX_VALUE;
    private static final int STATES = 5;
    private static final String[] STATE = {"new", "ordinary", "full", "with ten marks", "with eleven marks"};
    private static final Due due = new Due();

    /** A call, as its answer (a boolean counts 1 or 0). */
    private interface Call {
        int on(GoldPlate x);
    }

    private record Named(String name, int want, Call call) {
    }

    private static final List<Named> refused = new ArrayList<>();
    private static final List<Named> asking = new ArrayList<>();

    public static void main(String[] args) {
        due.says("a refused call answers as the document says and changes nothing");
        refuseMarks();
        refuseTells();
        refuseBits();
        refuseBeats();
        refuseTexts();
        refuseQuestions();
        for (Named n : refused) {
            for (int state = 0; state < STATES; state++) {
                changesNothing(n, state, true);
            }
        }
        due.says("a full object refuses what would be one more, and nothing changes");
        refused.clear();
        refuseMore();
        for (Named n : refused) {
            changesNothing(n, 2, true);
        }
        due.says("a TRIAL that can't be changes nothing");
        refused.clear();
        refuseTrials();
        for (Named n : refused) {
            for (int state = 0; state < STATES; state++) {
                changesNothing(n, state, true);
            }
        }
        due.says("what only asks changes nothing");
        ask();
        for (Named n : asking) {
            for (int state = 0; state < STATES; state++) {
                changesNothing(n, state, false);
            }
        }
        faultsChangeNoMind();
        due.close();
    }

    private static void no(String name, int want, Call call) {
        refused.add(new Named(name, want, call));
    }

    private static int as(boolean b) {
        return b ? 1 : 0;
    }

    private static int[] beside(int least, int most) {
        return new int[] {least - 1, most + 1, LEAST, MOST};
    }

    private static void refuseMarks() {
        for (int v : beside(0, 6)) {
            no("mark of KIND " + v, NONE, x -> x.mark(v, 0, 1, 1, 0));
            no("hard of KIND " + v, 0, x -> as(x.hard(v, 9)));
        }
        for (int v : beside(0, 15)) {
            no("mark of THING " + v, NONE, x -> x.mark(0, v, 1, 1, 0));
            no("mark of SENSES " + v, NONE, x -> x.mark(0, 0, 1, 1, v));
        }
        for (int v : beside(1, 99)) {
            no("mark of COST " + v, NONE, x -> x.mark(0, 0, v, 1, 0));
        }
        for (int v : beside(0, 999)) {
            no("mark of DEPTH " + v, NONE, x -> x.mark(0, 0, 1, v, 0));
            no("year " + v, 0, x -> as(x.year(v)));
        }
        for (int v : beside(0, 99)) {
            no("hard " + v, 0, x -> as(x.hard(0, v)));
            no("hard of KIND 6 " + v, 0, x -> as(x.hard(6, v)));
        }
        for (int v : new int[] {16, -2, LEAST, MOST}) {
            no("put " + v, NONE, x -> x.put(v));
        }
    }

    private static void refuseTells() {
        for (int v : new int[] {-1, 16, LEAST, MOST}) {
            for (int what = 0; what < 4; what++) {
                int w = what;
                no("tell of MARK " + v, 0, x -> as(x.tell(v, w, 0)));
                no("tell none of MARK " + v, 0, x -> as(x.tell(v, w, NONE)));
            }
        }
        for (int mark : new int[] {0, 1, 5, 15}) {
            for (int v : new int[] {-1, 1 << mark, 1 << 16, LEAST, MOST}) {
                no("NEEDS of " + mark + " " + v, 0, x -> as(x.tell(mark, 0, v)));
            }
            for (int v : beside(0, 255)) {
                no("KNOWS of " + mark + " " + v, 0, x -> as(x.tell(mark, 1, v)));
            }
            for (int v : new int[] {-2, 16, LEAST, MOST}) {
                no("first OTHER of " + mark + " " + v, 0, x -> as(x.tell(mark, 2, v)));
                no("second OTHER of " + mark + " " + v, 0, x -> as(x.tell(mark, 3, v)));
            }
            no("first OTHER its own", 0, x -> as(x.tell(mark, 2, mark)));
            no("second OTHER its own", 0, x -> as(x.tell(mark, 3, mark)));
            for (int v : beside(0, 3)) {
                no("tell what " + v, 0, x -> as(x.tell(mark, v, 0)));
            }
        }
    }

    private static void refuseBits() {
        for (int v : new int[] {-1, 33, LEAST, MOST}) {
            no("bits, n " + v, NONE, x -> x.bits(-1, v));
            no("grid, n " + v, NONE, x -> x.grid(-1, v));
        }
    }

    private static void refuseBeats() {
        for (int v : beside(1, 999999)) {
            no("beat of PERIOD " + v, NONE, x -> x.beat(v, 0, 0, 0));
        }
        for (int v : beside(0, 9999)) {
            no("beat SLOWER by " + v, NONE, x -> x.beat(1, v, 0, 0));
        }
        for (int v : beside(0, 39)) {
            no("beat at x " + v, NONE, x -> x.beat(1, 0, v, 0));
            no("beat at y " + v, NONE, x -> x.beat(1, 0, 0, v));
        }
        for (int v : beside(0, 13)) {
            no("found of BEAT " + v, 0, x -> as(x.found(v, 5, 6)));
            no("nothing found of BEAT " + v, 0, x -> as(x.found(v, NONE, 6)));
            no("far of BEAT " + v, 0, x -> as(x.far(v, 5)));
        }
        for (int beat : new int[] {0, 13}) {
            for (int[] v : new int[][] {{-2, 5}, {6, 5}, {0, 10000000}, {10000000, 10000000}, {0, -1}, {LEAST, MOST}}) {
                no("found " + v[0] + " " + v[1], 0, x -> as(x.found(beat, v[0], v[1])));
            }
            for (int v : beside(0, 55)) {
                no("far " + v, 0, x -> as(x.far(beat, v)));
            }
        }
    }

    private static void refuseTexts() {
        for (int v : new int[] {501, -1, LEAST, MOST}) {
            no("end " + v, 0, x -> as(x.end(v)));
        }
        for (int v : new int[] {2, -1, LEAST, MOST}) {
            no("fault " + v, NONE, x -> x.fault(v));
        }
    }

    private static void refuseQuestions() {
        for (int v : beside(0, 5)) {
            no("look " + v, NONE, x -> x.look(v));
            no("readings of MIND " + v, NONE, x -> x.readings(v, 5));
            no("cheapest of MIND " + v, NONE, x -> x.cheapest(v, 0));
            no("alone of MIND " + v, NONE, x -> x.alone(v, 0));
            no("widths of MIND " + v, NONE, x -> x.widths(v, 0));
            no("laid of MIND " + v, NONE, x -> x.laid(v, 20, 0));
            no("told of MIND " + v, NONE, x -> x.told(v, 1));
            no("never of MIND " + v, NONE, x -> x.never(v));
            no("deeper of MIND " + v, NONE, x -> x.deeper(v, 5));
        }
        for (int v : beside(0, 9999)) {
            no("readings up to " + v, NONE, x -> x.readings(0, v));
            no("best for " + v, NONE, x -> x.best(v, 1, 0));
        }
        for (int v : new int[] {3, 9, 20, -1, LEAST, MOST}) {
            no("cheapest " + v, NONE, x -> x.cheapest(0, v));
        }
        for (int v : new int[] {16, -1, LEAST, MOST}) {
            no("alone of MARK " + v, NONE, x -> x.alone(0, v));
            no("of MARK " + v, NO_SUCH, x -> x.of(v, 0));
        }
        for (int v : beside(0, 2)) {
            no("of what " + v, NO_SUCH, x -> x.of(0, v));
            no("years " + v, NONE, x -> x.years(v));
        }
        for (int v : beside(0, 1)) {
            no("laid what " + v, NONE, x -> x.laid(0, 20, v));
            no("places what " + v, NONE, x -> x.places(0, v));
        }
        for (int v : new int[] {1, 0, -1, 401, LEAST, MOST}) {
            no("laid by " + v, NONE, x -> x.laid(0, v, 0));
        }
        for (int v : new int[] {-1, 25, LEAST, MOST}) {
            no("widths what " + v, NONE, x -> x.widths(0, v));
        }
        for (int v : beside(0, 55)) {
            no("places for " + v, NONE, x -> x.places(v, 0));
        }
        for (int v : beside(0, 65535)) {
            no("told " + v, NONE, x -> x.told(0, v));
        }
        for (int v : beside(1, 63)) {
            no("best for MINDS " + v, NONE, x -> x.best(9, v, 0));
        }
        for (int v : beside(0, 63)) {
            no("ours for MINDS " + v, NONE, x -> x.ours(v));
        }
        for (int v : beside(0, 3)) {
            no("best what " + v, NONE, x -> x.best(9, 1, v));
        }
        for (int v : beside(0, 999)) {
            no("deeper in " + v, NONE, x -> x.deeper(0, v));
        }
        for (int v : beside(0, 39)) {
            no("agrees " + v, NONE, x -> x.agrees(v));
        }
    }

    private static void refuseTrials() {
        for (int v : new int[] {-1, 1 << 20, LEAST, MOST}) {
            no("trial " + v, NONE, x -> x.trial(v));
        }
    }

    private static void refuseMore() {
        no("the 17th MARK", NONE, x -> x.mark(0, 0, 1, 1, 0));
        no("the 401st bit", NONE, x -> x.bits(1, 1));
        no("the 401st bit of the GRID", NONE, x -> x.grid(1, 1));
        no("32 bits more", NONE, x -> x.bits(-1, 32));
        no("the 15th BEAT", NONE, x -> x.beat(5, 5, 5, 5));
        no("the 41st TRIAL", NONE, x -> x.trial(0));
        no("the 501st byte", NONE, x -> x.feed(-1, -1, -1, -1, -1));
        for (int mark : new int[] {0, 1, 3, 10}) {
            no("MARK " + mark + " is there", NONE, x -> x.put(mark));
        }
        no("end of 501", 0, x -> as(x.end(501)));
    }

    private static void ask(String name, Call call) {
        asking.add(new Named(name, 0, call));
    }

    private static void ask() {
        for (int i = 0; i < 6; i++) {
            int k = i;
            ask("look", x -> x.look(k));
            ask("readings", x -> x.readings(k, 40));
            ask("cheapest", x -> x.cheapest(k, k < 3 ? k : 7 + k));
            ask("alone", x -> x.alone(k, 3 * k));
            ask("widths", x -> x.widths(k, k));
            ask("laid", x -> x.laid(k, 20, k & 1));
            ask("told", x -> x.told(k, 1000 * k));
            ask("best", x -> x.best(10 * k, 1 + k, k & 3));
            ask("never", x -> x.never(k));
            ask("deeper", x -> x.deeper(k, 150 * k));
            ask("agrees", x -> x.agrees(7 * k));
            ask("ours", x -> x.ours(9 * k));
            ask("of", x -> x.of(3 * k, k % 3));
            ask("fault", x -> x.fault(k & 1));
            ask("years", x -> x.years(k % 3));
            ask("places", x -> x.places(k, k & 1));
        }
    }

    private static void changesNothing(Named n, int state, boolean refuses) {
        GoldPlate touched = made(state);
        GoldPlate left = made(state);
        int answer = n.call.on(touched);
        String name = n.name + ", " + STATE[state];
        if (refuses) {
            due.is(name, answer, n.want);
        }
        int[] a = answersOf(touched);
        int[] b = answersOf(left);
        int parts = NONE;
        for (int i = 0; i < a.length && parts == NONE; i++) {
            parts = a[i] == b[i] ? NONE : i;
        }
        due.is(name + ": the answer that parts them", parts, NONE);
    }

    /** A TEXT with a FAULT, or for no MIND, changes no MIND; the TAPE is empty then. */
    private static void faultsChangeNoMind() {
        due.says("a FAULT (it stays as it was); no such MIND");
        String start = "sense 0;sense 1;sense 2;sense 3;know 0;know 1;twin 0;try 0-far;price 1;";
        String[] faults = {"?", "sense 4;", "know 8;", "twin 1;", "try 1;", "price 1/0;", "price 1", "sense 12345;",
            "price 2 when (((((((((1=1)))))))));", "know 1;know 1;know 1;know 1;know 1;know 1;know 1;know 1;"};
        for (String fault : faults) {
            for (int k = 0; k < 6; k++) {
                parting(1, k, start + fault, fault);
            }
        }
        for (int k : new int[] {6, -1, LEAST, MOST}) {
            parting(1, k, start, "no such MIND");
            parting(3, k, start + "?", "no such MIND");
        }
    }

    private static void parting(int state, int k, String text, String name) {
        GoldPlate touched = made(state);
        GoldPlate left = made(state);
        touched.end(0);
        left.end(0);
        due.is("mind of " + name, Due.mind(touched, k, text), NONE);
        touched.mind(6);
        left.mind(6);
        int[] a = answersOf(touched);
        int[] b = answersOf(left);
        int parts = NONE;
        for (int i = 0; i < a.length && parts == NONE; i++) {
            parts = a[i] == b[i] ? NONE : i;
        }
        due.is(name + ", MIND " + k + ": the answer that parts them", parts, NONE);
    }

    private static GoldPlate made(int state) {
        GoldPlate x = new GoldPlate();
        if (state == 0) {
            return x;
        }
        int marks = state == 1 ? 6 : 16;
        for (int i = 0; i < marks; i++) {
            // MARK i tells THING i, so that its own THING is known to the calls above.
            x.mark(i % 7, i, 1 + i, 40 + 60 * i, i % 3 == 2 ? 1 << i % 4 : 0);
            x.tell(i, 0, i % 4 == 3 ? 1 << (i - 1) | 1 : 0);
            x.tell(i, 1, i % 5 == 4 ? 1 : 0);
            x.tell(i, 2, i % 2 == 0 ? (i + 3) % 16 : NONE);
            x.tell(i, 3, i % 4 == 0 ? (i + 5) % 16 : NONE);
        }
        for (int kind = 0; kind < 7; kind++) {
            x.hard(kind, kind + 1);
        }
        x.year(20);
        minds(x);
        int put = state == 1 ? 5 : state == 4 ? 11 : 10;
        for (int i = 0; i < put; i++) {
            x.put((i + 3) % (state == 1 ? 6 : 11));
        }
        rows(x, state == 2 ? 25 : 5);
        beats(x, state == 2 ? 14 : 4);
        for (int i = 0; i < (state == 2 ? 40 : 3); i++) {
            x.trial(0x155 & (i & 1) * 0xfff);
        }
        for (int i = 0; i < (state == 2 ? 25 : 2); i++) {
            x.feed(0x74727920, 0x31202020, 0x20202020, 0x20202020, i % 2 == 1 ? 0x3b202020 : 0x2b202020);
        }
        return x;
    }

    private static void minds(GoldPlate x) {
        Due.mind(x, 0, "sense 0;price 9 when bare=1;price cost;");
        Due.mind(x, 1, "sense 2;sense 1;know 0;twin 1;try edges;price 2+other;");
        Due.mind(x, 2, "know 0;sense 0;try 0-width;price left/9 when bare=1;price twice*3;");
        Due.mind(x, 3, "?");
    }

    private static void rows(GoldPlate x, int parts) {
        for (int i = 0; i < parts; i++) {
            x.bits(0x9c35 + 77 * i, 16);
            x.grid(0x9b31 + 77 * i, 16);
        }
    }

    private static void beats(GoldPlate x, int beats) {
        for (int i = 0; i < beats; i++) {
            x.beat(1000 + i, 1000, 2 * i, 39 - i);
            if (i % 2 == 0) {
                x.found(i, 1100 + 5 * i, 1900 - 5 * i);
                x.far(i, 20 + i % 3);
            }
        }
    }

    /** All that an object answers, in some 330 calls, the last of which change it. */
    private static int[] answersOf(GoldPlate x) {
        List<Integer> all = new ArrayList<>();
        for (int what = 0; what < 6; what++) {
            all.add(x.look(what));
        }
        all.add(x.fault(0));
        all.add(x.fault(1));
        for (int m = 0; m < 16; m++) {
            all.add(x.of(m, 0));
            all.add(x.of(m, 2));
            all.add(x.alone(1, m));
        }
        for (int k = 0; k < 6; k++) {
            askMind(x, k, all);
        }
        for (int what = 0; what < 3; what++) {
            all.add(x.years(what));
            all.add(x.places(4 * what, 0));
            all.add(x.places(4 * what, 1));
            all.add(x.best(10 + 9 * what, 7, what));
            all.add(x.ours(what));
        }
        for (int t = 0; t < 40; t += 13) {
            all.add(x.agrees(t));
        }
        thenChange(x, all);
        int[] row = new int[all.size()];
        for (int i = 0; i < row.length; i++) {
            row[i] = all.get(i);
        }
        return row;
    }

    private static void askMind(GoldPlate x, int k, List<Integer> all) {
        all.add(x.readings(k, 20));
        all.add(x.readings(k, 9999));
        for (int what = 0; what < 3; what++) {
            all.add(x.cheapest(k, what));
            all.add(x.widths(k, what));
        }
        all.add(x.cheapest(k, 10));
        all.add(x.cheapest(k, 14));
        all.add(x.laid(k, 20, 0));
        all.add(x.told(k, 65535));
        all.add(x.told(k, 0x1f7d));
        all.add(x.deeper(k, 60));
    }

    /** HARD shows in another YEAR, the TAPE as a MIND, OTHERS as TRIALS. */
    private static void thenChange(GoldPlate x, List<Integer> all) {
        x.year(30);
        for (int m = 0; m < 16; m++) {
            all.add(x.of(m, 0));
            all.add(x.put(m));
        }
        all.add(x.grid(0, 1));
        all.add(x.feed(0x20202020, 0x20202020, 0x20202020, 0x20202020, 0x20202020));
        all.add(x.mind(4));
        all.add(x.fault(0));
        all.add(x.fault(1));
        all.add(x.widths(4, 1));
        x.put(NONE);
        for (int m = 0; m < 16; m += 4) {
            all.add(x.put(m));
            all.add(x.trial(3 << m / 2));
            all.add(x.trial(2 << m / 2));
        }
    }
}
