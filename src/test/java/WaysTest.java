/** Promises 15 to 19: the ways, their persons and costs, and the links that they have. */
public final class WaysTest {
    private static final Due due = new Due("WaysTest");
    private static final int NONE = KinBench.NONE;
    private static final long ANN = Due.name("ann");
    private static final long ANNA = Due.name("anna");
    private static final long HANS = Due.name("hans");

    public static void main(String[] args) {
        ways();
        for (int gap = 0; gap <= 110; gap++) {
            parentsYears(gap);
            grownYears(gap);
            agedYears(gap);
        }
        noYears();
        for (int gap = -2; gap <= 2; gap++) {
            afterDeath(gap);
        }
        persons();
        cost();
        links();
        spentByWays();
        spentByTries();
        lastImpossible();
        due.end();
    }

    private static int open(boolean is) {
        return is ? 2 : 0;
    }

    private static void ways() {
        KinBench x = new KinBench();
        x.list(1800, 0, 0, NONE);
        x.list(1800, 0, 0, NONE);
        x.list(1800, 0, 0, NONE);
        due.is("15 all partitions", x.ways(), 5);
        x.copy(0, 0, 0, 0);
        due.is("15 a copy adds none", x.ways(), 5);
        x.list(1800, 1, 0, NONE);
        x.list(1800, 2, 0, NONE);
        due.is("15 two sexes", x.ways(), 37);
        KinBench children = new KinBench();
        children.found(1800, 0, 0);
        children.birth(1800, 0, 0, 0, 0);
        children.copy(1, 0, 0, 0);
        due.is("15 one child at most", children.link(0, 1), 0);
        due.is("15 two of a record", children.link(2, 3), 0);
        due.is("15 a copy's child", children.link(1, 4), 1);
        due.is("15 a copy's child and another", children.link(0, 4), 0);
    }

    /** One found in 1800 and the mother or father of one who is born so many years later. */
    private static void parentsYears(int gap) {
        KinBench x = new KinBench();
        x.found(1800, 0, 0);
        x.birth(1800 + gap, 0, 0, 0, 0);
        due.is("15 mother at " + gap, x.link(0, 2), open(gap >= 14 && gap <= 50));
        due.is("15 father at " + gap, x.link(0, 3), open(gap >= 14 && gap <= 70));
        x.laws(20, 20, 90, 100, 2);
        due.is("15 mother at " + gap, x.link(0, 2), open(gap == 20));
        due.is("15 father at " + gap, x.link(0, 3), open(gap >= 20 && gap <= 90));
    }

    private static void grownYears(int gap) {
        KinBench x = new KinBench();
        x.found(1800, 0, 0);
        x.wedding(1800 + gap, 0, 0);
        due.is("15 bride at " + gap, x.link(0, 1), open(gap >= 14 && gap <= 100));
        due.is("15 groom at " + gap, x.link(0, 2), open(gap >= 14 && gap <= 100));
        x.laws(40, 50, 50, 90, 2);
        due.is("15 groom at " + gap, x.link(0, 2), open(gap >= 40 && gap <= 90));
        x.drop();
        x.witness(1800 + gap, 0, 0, 0, 0);
        due.is("15 witness at " + gap, x.link(0, 1), open(gap >= 40 && gap <= 90));
        x.laws(14, 50, 50, 100, 2);
        due.is("15 witness at " + gap, x.link(0, 2), open(gap >= 14 && gap <= 100));
    }

    private static void agedYears(int gap) {
        KinBench x = new KinBench();
        x.found(1800, 0, 0);
        x.death(1800 + gap, 0, 0, NONE);
        due.is("15 dead at " + gap, x.link(0, 1), open(gap <= 100));
        x.drop();
        x.list(1800 + gap, 0, 0, NONE);
        due.is("15 listed at " + gap, x.link(0, 1), open(gap <= 100));
        x.drop();
        x.death(1800 + gap, 0, 0, 60);
        due.is("15 dead with 60 at " + gap, x.link(0, 1), open(gap == 60 || gap == 61));
        x.drop();
        x.list(1800 + gap, 0, 0, 60);
        due.is("15 listed with 60 at " + gap, x.link(0, 1), open(gap >= 58 && gap <= 63));
        x.laws(14, 50, 70, 50, 0);
        due.is("15 no round at " + gap, x.link(0, 1), open(gap == 60 || gap == 61));
    }

    private static void noYears() {
        KinBench x = new KinBench();
        x.list(1800, 0, 0, 120);
        due.is("15 an age beyond life", x.ways(), 1);
        x.drop();
        x.laws(40, 40, 40, 39, 2);
        due.is("15 nobody yet", x.ways(), 1);
        x.wedding(1800, 0, 0);
        due.is("15 not grown in a life", x.ways(), 0);
        x.laws(40, 40, 40, 40, 2);
        due.is("15 just grown", x.ways(), 1);
        KinBench early = new KinBench();
        early.birth(0, 0, 0, 0, 0);
        due.is("15 born before year 0", early.ways(), 1);
    }

    private static void afterDeath(int gap) {
        KinBench x = new KinBench();
        x.death(1850, 0, 0, NONE);
        x.wedding(1850 + gap, 0, 0);
        due.is("15 bride after death " + gap, x.link(0, 1), open(gap <= 0));
        x.drop();
        x.birth(1850 + gap, 0, 0, 0, 0);
        due.is("15 child after death " + gap, x.link(0, 1), open(gap <= 0));
        due.is("15 mother after death " + gap, x.link(0, 2), open(gap <= 0));
        due.is("15 father after death " + gap, x.link(0, 3), open(gap <= 1));
        x.drop();
        x.list(1850 + gap, 0, 0, NONE);
        due.is("15 listed after death " + gap, x.link(0, 1), open(gap <= 0));
        x.drop();
        x.death(1850 + gap, 0, 0, NONE);
        due.is("15 two deaths " + gap, x.link(0, 1), 0);
        KinBench y = new KinBench();
        y.witness(1850 + gap, 0, 0, NONE, 0);
        y.death(1850, 0, 0, NONE);
        y.copy(1, 0, 0, 0);
        due.is("15 death before a witness " + gap, y.link(0, 1), open(gap <= 0));
        due.is("15 death and its copy", y.link(1, 2), 1);
    }

    private static void persons() {
        KinBench x = new KinBench();
        x.list(1800, 0, 0, NONE);
        x.list(1800, 0, 0, NONE);
        x.list(1800, 0, 0, NONE);
        int[] want = {0, 1, 10, 11, 12};
        for (int k = 0; k < 5; k++) {
            due.is("16 way " + k, x.person(k, 0) * 100 + x.person(k, 1) * 10 + x.person(k, 2), want[k]);
        }
        due.is("16 way -1", x.person(-1, 0), NONE);
        due.is("16 way 5", x.person(5, 0), NONE);
        due.is("16 role 3", x.person(0, 3), NONE);
        due.is("16 role -1", x.person(0, -1), NONE);
        x.copy(1, 0, 0, 0);
        due.is("16 copy", x.person(2, 3), 1);
    }

    private static void cost() {
        KinBench x = new KinBench();
        x.list(1800, 0, ANN, NONE);
        x.list(1800, 0, HANS, NONE);
        x.list(1800, 0, ANNA, NONE);
        x.copy(0, Due.name("zacharya"), 0, 0);
        x.budget(20, 3);
        int[] want = {3 + 2 + 1 + 3, 6 + 2, 6 + 1, 6 + 3, 9};
        due.is("17 ways", x.ways(), 5);
        for (int k = 0; k < 5; k++) {
            due.is("17 cost " + k, x.cost(k), want[k]);
        }
        due.is("17 cost -1", x.cost(-1), NONE);
        due.is("17 cost 5", x.cost(5), NONE);
        x.budget(8, 3);
        due.is("17 ways", x.ways(), 2);
        due.is("17 cost 0", x.cost(0), 8);
        due.is("17 cost 1", x.cost(1), 7);
        x.sound(7, 0, true);
        due.is("17 h sounds like a", x.ways(), 4);
        due.is("17 cost 0", x.cost(0), 3 + 2 + 1 + 2);
    }

    private static void links() {
        KinBench x = new KinBench();
        x.list(1800, 1, 0, NONE);
        x.list(1800, 2, 0, NONE);
        x.list(1800, 0, 0, NONE);
        due.is("18 barred", x.link(0, 1), 0);
        due.is("18 open", x.link(2, 0), 2);
        due.is("18 itself", x.link(1, 1), 1);
        due.is("18 role 3", x.link(3, 0), NONE);
        due.is("18 role -1", x.link(0, -1), NONE);
        due.is("19 first", x.first(0, 2, true), 0);
        due.is("19 first", x.first(1, 2, true), 1);
        due.is("19 first not", x.first(0, 2, false), 1);
        due.is("19 first not", x.first(0, 1, false), 0);
        due.is("19 none", x.first(0, 1, true), NONE);
        due.is("19 none", x.first(0, 0, false), NONE);
        due.is("19 itself", x.first(2, 2, true), 0);
        due.is("19 role 3", x.first(0, 3, false), NONE);
        due.is("19 role -1", x.first(-1, 0, false), NONE);
        x.budget(5, 3);
        due.is("18 no way", x.link(0, 0), NONE);
        due.is("19 no way", x.first(0, 0, true), NONE);
        x.budget(6, 3);
        due.is("18 again", x.link(0, 2), 2);
        x.drop();
        x.list(1800, 1, 0, NONE);
        due.is("18 shown", x.link(0, 2), 1);
        due.is("19 all have it", x.first(0, 2, false), NONE);
    }

    private static void spentByWays() {
        KinBench x = new KinBench();
        PlainBench o = new PlainBench();
        for (int i = 0; i < 8; i++) {
            x.list(1800, 0, 0, NONE);
            o.list(1800, 0, "", -1);
            due.is("15 ways", x.ways(), o.ways());
            due.is("24 tries", x.about(3), o.tries());
        }
        due.is("15 spent", x.ways(), -2);
        due.is("16 spent", x.person(0, 0), NONE);
        due.is("17 spent", x.cost(0), NONE);
        due.is("18 spent", x.link(0, 0), NONE);
        due.is("19 spent", x.first(0, 0, true), NONE);
        due.is("20 spent", x.why(0, 0), NONE);
        due.is("21 spent", x.quarrel(), NONE);
        due.is("22 spent", x.kin(0, 0, 0), NONE);
        due.is("23 spent", x.always(0, 0), -3);
        x.drop();
        due.is("15 no more spent", x.ways(), 877);
    }

    /** Six pairs of at most four persons, of whom a wedding long after leaves but two. */
    private static void spentByTries() {
        KinBench x = new KinBench();
        for (int i = 0; i < 6; i++) {
            x.witness(1800, 0, 0, 0, 0);
        }
        x.wedding(2500, 0, 0);
        x.budget(4, 1);
        due.is("15 spent", x.ways(), -2);
        due.is("24 tries", x.about(3), 300000);
        due.is("18 spent", x.link(0, 1), NONE);
        due.is("21 spent", x.quarrel(), NONE);
        x.budget(3, 1);
        due.is("15 no way", x.ways(), 0);
        due.is("24 tries", x.about(3) > 3000 && x.about(3) < 300000, true);
        due.is("21 a pair and the wedding", x.quarrel(), 1 | 1 << 6);
    }

    /** One who can't be grown up comes last, after all others have been joined in all ways. */
    private static void lastImpossible() {
        KinBench x = new KinBench();
        x.laws(40, 40, 40, 39, 0);
        for (int i = 0; i < 7; i++) {
            x.list(1800, 0, 0, NONE);
        }
        x.witness(1800, 0, 0, NONE, 0);
        due.is("15 no way", x.ways(), 0);
        due.is("24 tries", x.about(3), 1 + 2 + 5 + 15 + 52 + 203 + 877 + 4140);
        due.is("21 the witness", x.quarrel(), 1 << 7);
    }
}
