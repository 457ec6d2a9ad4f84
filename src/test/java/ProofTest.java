/** Promises 20 and 21: least sets of records. */
public final class ProofTest {
    private static final Due due = new Due("ProofTest");
    private static final int NONE = KinBench.NONE;
    private static final long ANN = Due.name("ann");
    private static final long HANS = Due.name("hans");

    public static void main(String[] args) {
        why();
        spentWhy(4);
        spentWhy(5);
        quarrel();
        spentQuarrel();
        due.end();
    }

    private static void why() {
        KinBench x = new KinBench();
        x.list(1800, 1, ANN, NONE);
        x.list(1800, 0, ANN, NONE);
        x.list(1800, 2, HANS, NONE);
        x.copy(1, HANS, 0, 0);
        x.budget(4, 2);
        due.is("20 shown", x.link(0, 1), 1);
        due.is("20 by another's price", x.why(0, 1), 7);
        due.is("20 copy needs what it is of", x.why(1, 3), 10);
        due.is("20 copy and another", x.why(0, 3), 15);
        due.is("20 itself", x.why(0, 0), 1);
        due.is("20 copy itself", x.why(3, 3), 10);
        due.is("20 barred", x.why(0, 2), NONE);
        due.is("20 role 4", x.why(0, 4), NONE);
        due.is("20 role -1", x.why(-1, 0), NONE);
        x.budget(6, 2);
        due.is("20 open", x.why(0, 1), NONE);
        x.budget(2, 2);
        due.is("20 no way", x.why(0, 0), NONE);
        due.is("21 two sexes", x.quarrel(), 5);
    }

    /** Pairs of witnesses that four others leave in two persons; five pairs alone are in too many ways. */
    private static void spentWhy(int pairs) {
        KinBench x = new KinBench();
        PlainBench o = new PlainBench();
        for (int i = 0; i < pairs; i++) {
            x.witness(100, 1, 0, i == 0 ? 2 : 0, 0);
            o.witness(100, 1, "", i == 0 ? 2 : 0, "");
        }
        x.wedding(1000, 0, 0);
        o.wedding(1000, "", "");
        x.list(2000, 0, 0, NONE);
        o.list(2000, 0, "", -1);
        x.list(2500, 0, 0, NONE);
        o.list(2500, 0, "", -1);
        x.budget(12, 2);
        o.budget(12, 2);
        due.is("20 shown", x.link(0, 2), 1);
        due.is("20 with " + pairs, x.why(0, 2), o.why(0, 2));
        due.is("20 with " + pairs, x.why(0, 2), pairs == 4 ? 3 | 7 << 4 : NONE);
        due.is("20 smaller set", x.why(0, 0), 1);
    }

    private static void quarrel() {
        KinBench x = new KinBench();
        x.list(1700, 1, 0, NONE);
        x.death(1800, 1, 0, 20);
        x.list(1810, 1, 0, NONE);
        x.copy(0, 0, 0, 0);
        x.budget(3, 1);
        due.is("21 ways", x.quarrel(), NONE);
        x.budget(2, 1);
        due.is("21 all three", x.quarrel(), 7);
        x.budget(1, 1);
        due.is("21 first two", x.quarrel(), 3);
        x.budget(0, 1);
        due.is("21 one", x.quarrel(), 1);
        KinBench y = new KinBench();
        y.list(1800, 0, 0, NONE);
        y.wedding(1800, 0, 0);
        y.wedding(1800, 0, 0);
        y.laws(40, 40, 40, 39, 0);
        due.is("21 the least number", y.quarrel(), 2);
        KinBench z = new KinBench();
        z.list(1000, 0, 0, NONE);
        z.list(1500, 0, 0, NONE);
        z.list(2000, 0, 0, NONE);
        z.list(1000, 0, 0, NONE);
        z.budget(2, 1);
        due.is("21 three", z.quarrel(), 7);
        z.copy(3, 0, 0, 0);
        due.is("21 without copies", z.quarrel(), 7);
    }

    /** Three long after others need more than is left; pairs without them are in too many ways. */
    private static void spentQuarrel() {
        KinBench x = new KinBench();
        PlainBench o = new PlainBench();
        int[] sexes = {2, 1, 0, 0, 0, 1, 1, 1, 0, 0};
        for (int i = 0; i < 5; i++) {
            x.witness(1800, sexes[2 * i], 0, sexes[2 * i + 1], 0);
            o.witness(1800, sexes[2 * i], "", sexes[2 * i + 1], "");
        }
        for (int year = 2200; year <= 2600; year += 200) {
            x.list(year, 0, 0, NONE);
            o.list(year, 0, "", -1);
        }
        for (int budget = 1; budget <= 6; budget++) {
            x.budget(budget, 1);
            o.budget(budget, 1);
            due.is("21 ways with " + budget, x.ways(), o.ways());
            due.is("21 with " + budget, x.quarrel(), o.quarrel());
        }
        x.budget(5, 1);
        due.is("21 no way", x.ways(), 0);
        due.is("21 a set is spent", x.quarrel(), NONE);
    }
}
