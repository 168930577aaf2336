import java.util.List;
import java.util.Random;

/**
 * Messages of six to ten MARKS that have many READINGS, by chance (the same each time): what the class finds by
 * leaving out what is too dear is what the model finds by trying all.
 */
public final class LongMessageTest {
    private static final int RUNS = 60;
    private static final int[] PRICES = {0, 1, 5, 20, 60, 999, 9999};
    private static final String[] TEXTS = {
        "price 9 when bare=1;price cost/3+other*4-twice;",
        "price 5 when bare=1;price 7-twice*7;",
        "price 0 when twice=1;price 4+place-bare;",
        "price 6 when twice=1 and other=1;price 2 when other=1;price 3;",
        "price place*3 when bare=1;price 9-place+other*2;",
        "price 8-left/20 when bare=1;price worn*5+kind when not twice=1;price 1;"};
    private static final Due due = new Due();

    private final Random chance;
    private final GoldPlate x = new GoldPlate();
    private final Model m = new Model();
    private final int run;

    private LongMessageTest(int run) {
        this.run = run;
        this.chance = new Random(run);
    }

    public static void main(String[] args) {
        for (int run = 0; run < RUNS; run++) {
            LongMessageTest t = new LongMessageTest(run);
            t.setUp(run % 10 == 0 ? 10 : 6 + run % 3);
            for (int k = 0; k < 6; k++) {
                t.compare(k);
            }
            t.people();
        }
        due.close();
    }

    private int below(int n) {
        return chance.nextInt(n);
    }

    /** Ten MARKS have fewer OTHERS, so that the model ends soon. */
    private void setUp(int size) {
        int things = 4 + below(6);
        for (int i = 0; i < size; i++) {
            int kind = below(7);
            int thing = below(things);
            int cost = 1 + below(30);
            int depth = 20 + below(200);
            x.mark(kind, thing, cost, depth, 0);
            m.mark(kind, thing, cost, depth, 0);
            tell(i, 0, i > 0 && below(2) == 0 ? 1 << below(i) : 0);
            tell(i, 2, below(size > 8 ? 3 : 12) > 0 ? below(things) : -1);
            tell(i, 3, below(size > 8 ? 2 : 4) > 0 ? below(things) : -1);
        }
        for (int kind = 0; kind < 7; kind++) {
            int v = below(3);
            x.hard(kind, v);
            m.hard(kind, v);
        }
        int year = below(40);
        x.year(year);
        m.year(year);
        for (int i = 0; i < size; i++) {
            // By number, so that NEEDS stand ahead; in some runs turned round from a place on.
            int mark = run % 4 == 3 && i >= size / 2 ? size - 1 - (i - size / 2) : i;
            due.is("put", x.put(mark), m.put(mark));
        }
        for (int k = 0; k < 6; k++) {
            String text = TEXTS[k];
            Due.mind(x, k, text);
            byte[] bytes = Due.bytesOf(text);
            for (int i = 0; i < bytes.length; i += 20) {
                int n = i / 4;
                m.feed(Due.number(bytes, n), Due.number(bytes, n + 1), Due.number(bytes, n + 2),
                        Due.number(bytes, n + 3), Due.number(bytes, n + 4));
            }
            m.end(bytes.length);
            due.is("lines", m.mind(k), text.split(";").length);
        }
    }

    private void tell(int mark, int what, int v) {
        due.is("tell", x.tell(mark, what, v) ? 1 : 0, m.tell(mark, what, v));
    }

    private void compare(int k) {
        List<Model.Reading> all = m.all(k, m.message);
        Model.Reading first = all.get(0);
        for (Model.Reading r : all) {
            first = r.price < first.price ? r : first;
        }
        String name = "run " + run + ", MIND " + k;
        due.is(name + ": PRICE of " + all.size(), x.cheapest(k, 0), first.price);
        for (int i = 0; i < first.takings.length; i++) {
            due.is(name + ": TAKING at " + i, x.cheapest(k, 10 + i), first.takings[i]);
        }
        for (int price : PRICES) {
            count(k, price, all);
        }
        for (int price = Math.max(0, first.price - 1); price <= first.price + 3; price++) {
            count(k, price, all);
        }
    }

    private void count(int k, int price, List<Model.Reading> all) {
        int n = 0;
        for (Model.Reading r : all) {
            n += r.price <= price ? 1 : 0;
        }
        due.is("run " + run + ", MIND " + k + " up to " + price, x.readings(k, price), n > 2000 ? -2 : n);
    }

    /** Each MIND's own TAKINGS as a TRIAL: it AGREES. */
    private void people() {
        for (int k = 0; k < 6; k++) {
            int takings = 0;
            for (int i = 0; i < m.message.size(); i++) {
                takings |= x.cheapest(k, 10 + i) << 2 * i;
            }
            due.is("a TRIAL", x.trial(takings), k);
            due.is("its MIND agrees", x.agrees(k) >> k & 1, 1);
        }
    }
}
