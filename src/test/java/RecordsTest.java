/** Promises 1 to 9 and 14: the records and their roles. */
public final class RecordsTest {
    private static final Due due = new Due("RecordsTest");
    private static final int NONE = KinBench.NONE;
    private static final long ANN = Due.name("ann");
    private static final long HANS = Due.name("hans");
    private static final long EIGHT = Due.name("zacharya");

    public static void main(String[] args) {
        newObject();
        birth();
        found();
        wedding();
        death();
        list();
        witness();
        copy();
        fullBench();
        drop();
        role();
        due.end();
    }

    private static void newObject() {
        KinBench x = new KinBench();
        due.is("1 NONE", NONE, -1);
        int[] want = {0, 0, 0, 0, 14, 50, 70, 100, 2, 0};
        for (int what = 0; what < 10; what++) {
            due.is("1 about(" + what + ")", x.about(what), want[what]);
        }
        due.is("1 ways", x.ways(), 1);
        due.is("1 cost(0)", x.cost(0), 0);
        due.is("1 cost(1)", x.cost(1), NONE);
        due.is("1 person", x.person(0, 0), NONE);
        due.is("1 link", x.link(0, 0), NONE);
        due.is("1 quarrel", x.quarrel(), NONE);
        due.is("1 always", x.always(0, 0), -3);
        due.is("1 drop", x.drop(), false);
    }

    private static void birth() {
        KinBench x = new KinBench();
        due.is("2 year -1", x.birth(-1, 1, ANN, ANN, ANN), NONE);
        due.is("2 year 3001", x.birth(3001, 1, ANN, ANN, ANN), NONE);
        due.is("2 sex -1", x.birth(1800, -1, ANN, ANN, ANN), NONE);
        due.is("2 sex 3", x.birth(1800, 3, ANN, ANN, ANN), NONE);
        for (long no : Due.noNames()) {
            due.is("2 child " + no, x.birth(1800, 1, no, ANN, ANN), NONE);
            due.is("2 mother " + no, x.birth(1800, 1, ANN, no, ANN), NONE);
            due.is("2 father " + no, x.birth(1800, 1, ANN, ANN, no), NONE);
        }
        due.is("2 about(0)", x.about(0), 0);
        due.is("2 year 0", x.birth(0, 2, 0, 0, 0), 0);
        due.is("2 year 3000", x.birth(3000, 1, EIGHT, EIGHT, EIGHT), 1);
        due.is("2 sex not told", x.birth(1800, 0, ANN, 0, HANS), 2);
        due.is("2 about(1)", x.about(1), 9);
        due.is("2 kinds", x.role(3, 4) * 100 + x.role(4, 4) * 10 + x.role(5, 4), 12);
        due.is("2 sexes, a girl", x.role(3, 2) * 100 + x.role(4, 2) * 10 + x.role(5, 2), 112);
        due.is("2 sexes, not told", x.role(6, 2) * 100 + x.role(7, 2) * 10 + x.role(8, 2), 12);
        due.is("2 fourth", x.birth(1800, 1, ANN, 0, HANS), 3);
        due.is("2 15 roles", x.birth(1800, 1, ANN, 0, HANS), NONE);
        due.is("2 about(1)", x.about(1), 12);
    }

    private static void found() {
        KinBench x = new KinBench();
        due.is("3 year -1", x.found(-1, 1, ANN), NONE);
        due.is("3 year 3001", x.found(3001, 1, ANN), NONE);
        due.is("3 sex 3", x.found(1800, 3, ANN), NONE);
        due.is("3 sex -1", x.found(1800, -1, ANN), NONE);
        for (long no : Due.noNames()) {
            due.is("3 child " + no, x.found(1800, 1, no), NONE);
        }
        for (int i = 0; i < 8; i++) {
            due.is("3 number", x.found(i == 0 ? 0 : 3000, i % 3, ANN), i);
        }
        due.is("3 ninth", x.found(1800, 0, ANN), NONE);
        due.is("3 about(0)", x.about(0), 8);
        due.is("3 kind", x.role(1, 4), 0);
        due.is("3 sex", x.role(1, 2), 1);
        due.is("3 age", x.role(1, 3), NONE);
        due.is("3 year", x.role(1, 1), 3000);
    }

    private static void wedding() {
        KinBench x = new KinBench();
        due.is("4 year -1", x.wedding(-1, ANN, HANS), NONE);
        due.is("4 year 3001", x.wedding(3001, ANN, HANS), NONE);
        for (long no : Due.noNames()) {
            due.is("4 bride " + no, x.wedding(1800, no, HANS), NONE);
            due.is("4 groom " + no, x.wedding(1800, ANN, no), NONE);
        }
        for (int i = 0; i < 7; i++) {
            due.is("4 number", x.wedding(3000 * (i & 1), ANN, 0), i);
        }
        due.is("4 15 roles", x.wedding(1800, ANN, HANS), NONE);
        due.is("4 kinds", x.role(0, 4) * 10 + x.role(1, 4), 34);
        due.is("4 sexes", x.role(0, 2) * 10 + x.role(1, 2), 12);
        due.is("4 about(1)", x.about(1), 14);
    }

    private static void death() {
        KinBench x = new KinBench();
        due.is("5 year -1", x.death(-1, 1, ANN, 5), NONE);
        due.is("5 year 3001", x.death(3001, 1, ANN, 5), NONE);
        due.is("5 sex -1", x.death(1800, -1, ANN, 5), NONE);
        due.is("5 sex 3", x.death(1800, 3, ANN, 5), NONE);
        due.is("5 age 121", x.death(1800, 1, ANN, 121), NONE);
        due.is("5 age -2", x.death(1800, 1, ANN, -2), NONE);
        for (long no : Due.noNames()) {
            due.is("5 name " + no, x.death(1800, 1, no, 5), NONE);
        }
        due.is("5 age 0", x.death(1800, 1, ANN, 0), 0);
        due.is("5 age 120", x.death(1800, 2, 0, 120), 1);
        due.is("5 age not told", x.death(0, 0, EIGHT, NONE), 2);
        due.is("5 kind", x.role(2, 4), 5);
        due.is("5 age of 0", x.role(0, 3), 0);
        due.is("5 age of 1", x.role(1, 3), 120);
        due.is("5 age of 2", x.role(2, 3), NONE);
    }

    private static void list() {
        KinBench x = new KinBench();
        due.is("6 year -1", x.list(-1, 1, ANN, 5), NONE);
        due.is("6 year 3001", x.list(3001, 1, ANN, 5), NONE);
        due.is("6 sex -1", x.list(1800, -1, ANN, 5), NONE);
        due.is("6 sex 3", x.list(1800, 3, ANN, 5), NONE);
        due.is("6 age 121", x.list(1800, 1, ANN, 121), NONE);
        due.is("6 least age", x.list(1800, 1, ANN, Integer.MIN_VALUE), NONE);
        for (long no : Due.noNames()) {
            due.is("6 name " + no, x.list(1800, 1, no, 5), NONE);
        }
        due.is("6 age 0", x.list(1800, 1, ANN, 0), 0);
        due.is("6 age 120", x.list(3000, 2, 0, 120), 1);
        due.is("6 age not told", x.list(0, 0, EIGHT, NONE), 2);
        due.is("6 kind", x.role(2, 4), 6);
        due.is("6 age of 1", x.role(1, 3), 120);
    }

    private static void witness() {
        KinBench x = new KinBench();
        due.is("7 year -1", x.witness(-1, 1, ANN, 1, HANS), NONE);
        due.is("7 year 3001", x.witness(3001, 1, ANN, NONE, HANS), NONE);
        due.is("7 sex -1", x.witness(1800, -1, ANN, 1, HANS), NONE);
        due.is("7 sex 3", x.witness(1800, 3, ANN, NONE, HANS), NONE);
        due.is("7 second -2", x.witness(1800, 1, ANN, -2, HANS), NONE);
        due.is("7 second 3", x.witness(1800, 1, ANN, 3, HANS), NONE);
        for (long no : Due.noNames()) {
            due.is("7 one " + no, x.witness(1800, 1, no, NONE, 0), NONE);
            due.is("7 other " + no, x.witness(1800, 1, ANN, 0, no), NONE);
        }
        due.is("7 one", x.witness(1800, 0, ANN, NONE, 0), 0);
        due.is("7 two", x.witness(0, 0, ANN, 0, 0), 1);
        due.is("7 two", x.witness(3000, 2, 0, 1, HANS), 2);
        due.is("7 about(1)", x.about(1), 5);
        due.is("7 kinds", x.role(3, 4) * 10 + x.role(4, 4), 77);
        due.is("7 sexes", x.role(3, 2) * 10 + x.role(4, 2), 21);
        due.is("7 other is not asked for", x.witness(1800, 1, ANN, NONE, 65), 3);
    }

    private static void copyOfTwo() {
        KinBench x = new KinBench();
        x.wedding(1800, ANN, HANS);
        for (long no : Due.noNames()) {
            due.is("8 of two, a " + no, x.copy(0, no, ANN, 0), NONE);
            due.is("8 of two, b " + no, x.copy(0, ANN, no, 0), NONE);
        }
        due.is("8 nothing done", x.about(0) * 100 + x.about(1), 102);
        due.is("8 of two", x.copy(0, HANS, ANN, 65), 1);
        due.is("8 groom again", x.role(3, 5), 1);
    }

    private static void copy() {
        KinBench x = new KinBench();
        due.is("8 of nothing", x.copy(0, ANN, ANN, ANN), NONE);
        x.birth(1800, 1, ANN, ANN, HANS);
        x.death(1850, 2, ANN, 50);
        due.is("8 record -1", x.copy(-1, ANN, ANN, ANN), NONE);
        due.is("8 record 2", x.copy(2, ANN, ANN, ANN), NONE);
        for (long no : Due.noNames()) {
            due.is("8 a " + no, x.copy(0, no, ANN, ANN), NONE);
            due.is("8 b " + no, x.copy(0, ANN, no, ANN), NONE);
            due.is("8 c " + no, x.copy(0, ANN, ANN, no), NONE);
        }
        due.is("8 of a death", x.copy(1, HANS, 65, 65), 2);
        due.is("8 of a birth", x.copy(0, HANS, HANS, HANS), 3);
        due.is("8 of a copy", x.copy(2, ANN, 0, 0), NONE);
        due.is("8 another", x.copy(0, 0, 0, 0), 4);
        copyOfTwo();
        due.is("8 about(1)", x.about(1), 11);
        int[] dead = {2, 1850, 2, 50, 5, 3};
        int[] father = {3, 1800, 2, NONE, 2, 2};
        for (int what = 0; what < 6; what++) {
            due.is("8 role(4, " + what + ")", x.role(4, what), dead[what]);
            due.is("8 role(7, " + what + ")", x.role(7, what), father[what]);
        }
        due.is("8 names cost nothing", x.cost(0), 0);
        due.is("8 father", x.link(2, 7), 1);
        due.is("8 dead", x.link(3, 4), 1);
        due.is("8 child", x.link(5, 8), 1);
        due.is("8 mother and father", x.link(6, 7), 0);
        due.is("8 14 roles", x.copy(0, 0, 0, 0), 5);
        due.is("8 17 roles", x.copy(0, 0, 0, 0), NONE);
    }

    private static void fullBench() {
        KinBench x = new KinBench();
        for (int i = 0; i < 6; i++) {
            x.wedding(1800, 0, 0);
        }
        due.is("2 15 roles", x.birth(1800, 1, 0, 0, 0), NONE);
        due.is("7 14 roles", x.witness(1800, 0, 0, 0, 0), 6);
        due.is("3 15 roles", x.found(1800, 0, 0), NONE);
        due.is("5 15 roles", x.death(1800, 0, 0, 3), NONE);
        due.is("6 15 roles", x.list(1800, 0, 0, 3), NONE);
        due.is("7 15 roles", x.witness(1800, 0, 0, NONE, 0), NONE);
        due.is("8 16 roles", x.copy(0, 0, 0, 0), NONE);
        x.drop();
        due.is("6 13 roles", x.list(1800, 0, 0, 3), 6);
        due.is("4 15 roles", x.wedding(1800, 0, 0), NONE);
        due.is("7 15 roles", x.witness(1800, 0, 0, 0, 0), NONE);
        due.is("8 15 roles", x.copy(0, 0, 0, 0), NONE);
        due.is("8 14 roles", x.copy(6, 0, 0, 0), 7);
        due.is("24 about(0)", x.about(0), 8);
        due.is("24 about(1)", x.about(1), 14);
    }

    private static void drop() {
        KinBench x = new KinBench();
        x.found(1800, 1, ANN);
        x.wedding(1820, ANN, HANS);
        x.copy(1, ANN, HANS, 0);
        due.is("9 drop", x.drop(), true);
        due.is("9 about(0)", x.about(0), 2);
        due.is("9 about(1)", x.about(1), 3);
        due.is("9 gone", x.role(3, 0), NONE);
        due.is("9 still there", x.role(2, 0), 1);
        due.is("9 drop", x.drop(), true);
        due.is("9 number again", x.death(1900, 2, HANS, 3), 1);
        due.is("9 kind", x.role(1, 4), 5);
        due.is("9 no copy", x.role(1, 5), NONE);
        due.is("9 can be copied", x.copy(1, 0, 0, 0), 2);
        due.is("9 drop", x.drop() && x.drop() && x.drop(), true);
        due.is("9 none", x.drop(), false);
        due.is("9 about(1)", x.about(1), 0);
    }

    private static void role() {
        KinBench x = new KinBench();
        due.is("14 none", x.role(0, 0), NONE);
        x.found(1800, 2, ANN);
        x.list(1801, 0, ANN, 7);
        x.copy(1, HANS, 0, 0);
        int[][] want = {{0, 1800, 2, NONE, 0, NONE}, {1, 1801, 0, 7, 6, NONE}, {2, 1801, 0, 7, 6, 1}};
        for (int r = 0; r < 3; r++) {
            for (int what = 0; what < 6; what++) {
                due.is("14 role(" + r + ", " + what + ")", x.role(r, what), want[r][what]);
            }
        }
        due.is("14 what 6", x.role(0, 6), NONE);
        due.is("14 what -1", x.role(0, -1), NONE);
        due.is("14 role -1", x.role(-1, 0), NONE);
        due.is("14 role 3", x.role(3, 0), NONE);
        due.is("14 role least", x.role(Integer.MIN_VALUE, 0), NONE);
        due.is("14 seeks no ways", x.about(3), 0);
    }
}
