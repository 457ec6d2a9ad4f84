/** Promises 22 and 23: what persons are to one another. */
public final class KinTest {
    private static final Due due = new Due("KinTest");
    private static final int NONE = KinBench.NONE;
    private static final long ANN = Due.name("ann");
    private static final long HANS = Due.name("hans");

    public static void main(String[] args) {
        kin();
        copies();
        rings();
        tenSteps();
        always();
        due.end();
    }

    private static void kin() {
        KinBench x = new KinBench();
        long eva = Due.name("eva");
        long otto = Due.name("otto");
        x.birth(1800, 1, eva, Due.name("ida"), Due.name("kurt"));
        x.birth(1825, 2, otto, eva, Due.name("bob"));
        x.birth(1850, 1, Due.name("uli"), Due.name("mary"), otto);
        due.is("22 ways", x.ways(), 4);
        due.is("22 both joined", x.person(0, 4) * 100 + x.person(0, 8), 3);
        due.is("22 itself", x.kin(0, 6, 6), 0);
        due.is("22 father", x.kin(0, 6, 3), 100);
        due.is("22 grandmother", x.kin(0, 6, 0), 200);
        due.is("22 great-grandfather", x.kin(0, 6, 2), 300);
        due.is("22 great-grandchild", x.kin(0, 1, 6), 3);
        due.is("22 mother and father", x.kin(0, 1, 2), NONE);
        due.is("22 by marriage", x.kin(0, 0, 5), NONE);
        due.is("22 not joined", x.kin(3, 6, 0), NONE);
        due.is("22 way -1", x.kin(-1, 0, 0), NONE);
        due.is("22 way 4", x.kin(4, 0, 0), NONE);
        due.is("22 role 9", x.kin(0, 9, 0), NONE);
        due.is("22 role -1", x.kin(0, 0, -1), NONE);
        x.birth(1860, 1, Due.name("pia"), Due.name("rosa"), otto);
        due.is("22 half sister", x.kin(0, 6, 9), 101);
        x.drop();
        x.birth(1851, 1, Due.name("pia"), eva, Due.name("carl"));
        int k = x.first(0, 10, true);
        due.is("22 mother at 51 bars it", k, NONE);
        x.laws(14, 51, 70, 100, 2);
        due.is("22 aunt", x.kin(x.first(0, 10, true), 6, 9), 201);
        due.is("22 nephew", x.kin(x.first(0, 10, true), 9, 6), 102);
    }

    private static void copies() {
        KinBench x = new KinBench();
        x.birth(1800, 1, ANN, ANN, HANS);
        x.copy(0, 0, 0, 0);
        due.is("22 a copy's child", x.kin(0, 3, 1), 100);
        due.is("22 a copy's mother", x.kin(0, 0, 4), 100);
        due.is("22 a copy's mother and father", x.kin(0, 4, 5), NONE);
        x.drop();
        x.drop();
        x.found(1800, 1, ANN);
        x.witness(1800, 1, ANN, 2, HANS);
        due.is("22 one found has no parents", x.kin(0, 0, 1), NONE);
    }

    /** With GROWN 0 a mother may be born in her child's year, and so be her own foremother. */
    private static void rings() {
        Bench x = new Bench();
        PlainBench o = new PlainBench();
        x.laws(0, 50, 70, 100, 0);
        o.laws(0, 50, 70, 100, 0);
        x.budget(5, 1);
        o.budget(5, 1);
        for (int i = 0; i < 3; i++) {
            x.birth(1800, i % 2, 0, 0, 0);
            o.birth(1800, i % 2, "", "", "");
        }
        due.is("22 rings", x.ways(), o.ways());
        due.is("22 there are some", o.ways() > 10, true);
        for (int k = 0; k < o.ways(); k++) {
            for (int a = 0; a < 9; a++) {
                for (int b = 0; b < 9; b++) {
                    due.is("22 ring " + k + " " + a + " " + b, x.kin(k, a, b), o.kin(k, a, b));
                }
            }
        }
    }

    /** The longest line of four births. */
    private static void tenSteps() {
        KinBench x = new KinBench();
        String[] names = {"aaaaaaaa", "bbbbbbbb", "cccccccc", "dddddddd", "eeeeeeee"};
        String[] mothers = {"pppppppp", "qqqqqqqq", "rrrrrrrr", "ssssssss"};
        for (int i = 0; i < 4; i++) {
            x.birth(1800 + 20 * i, 2, Due.name(names[i + 1]), Due.name(mothers[i]), Due.name(names[i]));
        }
        x.budget(9, 1);
        due.is("22 line", x.ways(), 1);
        due.is("22 four up", x.kin(0, 9, 2), 400);
        due.is("22 four down", x.kin(0, 2, 9), 4);
        due.is("23 four up", x.always(9, 2), 400);
    }

    private static void always() {
        KinBench x = new KinBench();
        x.birth(1800, 1, ANN, Due.name("zoe"), HANS);
        x.list(1801, 1, ANN, NONE);
        due.is("23 parent", x.always(0, 1), 100);
        due.is("23 child", x.always(2, 0), 1);
        due.is("23 itself", x.always(3, 3), 0);
        due.is("23 none at all", x.always(1, 2), NONE);
        due.is("23 differs", x.always(3, 2), -2);
        due.is("23 role 4", x.always(0, 4), -3);
        due.is("23 role -1", x.always(-1, 0), -3);
        x.budget(0, 1);
        due.is("23 no ways", x.always(0, 0), -3);
        x.budget(3, 1);
        due.is("23 one way", x.always(3, 2), 100);
    }
}
