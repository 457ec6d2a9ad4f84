/** Promises 10 to 13 and 24: laws, sounds, budget, how far names are, and what is told about the bench. */
public final class RulesTest {
    private static final Due due = new Due("RulesTest");
    private static final int NONE = KinBench.NONE;
    private static final long ANN = Due.name("ann");
    private static final long HANS = Due.name("hans");
    private static final long EIGHT = Due.name("zacharya");

    public static void main(String[] args) {
        laws();
        sound();
        soundOfItself();
        budget();
        far();
        about();
        notSought();
        tries();
        due.end();
    }

    private static void laws() {
        KinBench x = new KinBench();
        int[][] wrong = {{-1, 50, 70, 100, 2}, {41, 50, 70, 100, 2}, {14, 13, 70, 100, 2}, {14, 81, 70, 100, 2},
            {14, 50, 13, 100, 2}, {14, 50, 121, 100, 2}, {14, 50, 70, 0, 2}, {14, 50, 70, 131, 2},
            {14, 50, 70, 100, -1}, {14, 50, 70, 100, 21}};
        for (int[] w : wrong) {
            due.is("10 wrong", x.laws(w[0], w[1], w[2], w[3], w[4]), false);
        }
        due.is("10 as before", x.about(4) * 100 + x.about(5), 1450);
        due.is("10 as before", x.about(6) * 1000 + x.about(7) * 10 + x.about(8), 71002);
        int[][] fine = {{0, 0, 0, 1, 0}, {40, 40, 40, 130, 20}, {40, 80, 120, 130, 20}, {0, 80, 120, 1, 0}};
        for (int[] f : fine) {
            due.is("10 fine", x.laws(f[0], f[1], f[2], f[3], f[4]), true);
            for (int i = 0; i < 5; i++) {
                due.is("10 about", x.about(4 + i), f[i]);
            }
        }
    }

    private static void sound() {
        KinBench x = new KinBench();
        due.is("11 wrong", x.sound(-1, 0, true), false);
        due.is("11 wrong", x.sound(0, -1, true), false);
        due.is("11 wrong", x.sound(26, 0, false), false);
        due.is("11 wrong", x.sound(0, 26, true), false);
        long c = Due.name("c");
        long k = Due.name("k");
        long q = Due.name("q");
        due.is("11 not yet", x.far(c, k), 1);
        due.is("11 alike", x.sound(2, 10, true), true);
        due.is("11 alike", x.far(c, k), 0);
        due.is("11 alike both ways", x.far(k, c), 0);
        due.is("11 another", x.sound(16, 10, true), true);
        due.is("11 two by two alone", x.far(c, q), 1);
        due.is("11 not", x.sound(10, 2, false), true);
        due.is("11 no more", x.far(c, k), 1);
        due.is("11 other stays", x.far(q, k), 0);
        due.is("11 ends", x.sound(0, 25, true), true);
        due.is("11 ends", x.far(Due.name("a"), Due.name("z")), 0);
    }

    /** A letter sounds like itself always: telling so changes nothing, and telling not so can't be. */
    private static void soundOfItself() {
        for (int letter = 0; letter < 26; letter++) {
            KinBench x = new KinBench();
            long own = 'a' + letter;
            int other = (letter + 1) % 26;
            long next = 'a' + other;
            due.is("11 not itself, new " + letter, x.sound(letter, letter, false), false);
            due.is("11 itself always " + letter, x.far(own, own), 0);
            due.is("11 itself " + letter, x.sound(letter, letter, true), true);
            due.is("11 not itself, told " + letter, x.sound(letter, letter, false), false);
            due.is("11 itself still " + letter, x.far(own, own), 0);
            due.is("11 itself alone " + letter, x.far(own, next), 1);
            due.is("11 the next " + letter, x.sound(letter, other, true), true);
            due.is("11 not itself, like another " + letter, x.sound(letter, letter, false), false);
            due.is("11 the next still " + letter, x.far(next, own), 0);
        }
        KinBench y = new KinBench();
        due.is("11 beyond itself", y.sound(26, 26, true), false);
        due.is("11 before itself", y.sound(-1, -1, true), false);
        y.list(1800, 0, ANN, NONE);
        y.list(1800, 0, Due.name("inn"), NONE);
        y.sound(0, 8, true);
        due.is("11 joined for nothing", y.ways(), 2);
        due.is("11 not itself", y.sound(0, 0, false), false);
        due.is("11 ways as before", y.ways(), 2);
        due.is("11 tries as before", y.about(3), 3);
    }

    private static void budget() {
        KinBench x = new KinBench();
        due.is("12 cost -1", x.budget(-1, 0), false);
        due.is("12 cost 301", x.budget(301, 0), false);
        due.is("12 price -1", x.budget(0, -1), false);
        due.is("12 price 21", x.budget(0, 21), false);
        due.is("12 as before", x.about(2) + x.about(9), 0);
        due.is("12 most", x.budget(300, 20), true);
        due.is("12 about", x.about(2) * 100 + x.about(9), 30020);
        x.wedding(1800, ANN, HANS);
        due.is("12 price of two", x.cost(0), 40);
        due.is("12 one too few", x.budget(39, 20), true);
        due.is("12 too dear", x.ways(), 0);
        due.is("12 just so", x.budget(40, 20), true);
        due.is("12 just so", x.ways(), 1);
        due.is("12 least", x.budget(0, 0), true);
        due.is("12 free", x.ways(), 1);
    }

    private static void far() {
        KinBench x = new KinBench();
        for (long no : Due.noNames()) {
            due.is("13 a " + no, x.far(no, ANN), NONE);
            due.is("13 b " + no, x.far(ANN, no), NONE);
            due.is("13 of none told " + no, x.far(no, 0), NONE);
        }
        due.is("13 itself", x.far(EIGHT, EIGHT), 0);
        due.is("13 not told", x.far(0, EIGHT), 0);
        due.is("13 not told", x.far(EIGHT, 0), 0);
        due.is("13 none told", x.far(0, 0), 0);
        due.is("13 put in", x.far(ANN, Due.name("anna")), 1);
        due.is("13 left out", x.far(Due.name("anna"), Due.name("nna")), 1);
        due.is("13 changed", x.far(ANN, Due.name("inn")), 1);
        due.is("13 all", x.far(Due.name("aaaaaaaa"), Due.name("bbbbbbbb")), 8);
        due.is("13 all put in", x.far(Due.name("b"), Due.name("aaaaaaaa")), 8);
        due.is("13 turned", x.far(Due.name("ab"), Due.name("ba")), 2);
        due.is("13 moved", x.far(Due.name("abcdefgh"), Due.name("bcdefgha")), 2);
        due.is("13 kitten", x.far(Due.name("kitten"), Due.name("sitting")), 3);
        due.is("13 seeks no ways", x.about(3), 0);
    }

    private static void about() {
        KinBench x = new KinBench();
        due.is("24 what -1", x.about(-1), NONE);
        due.is("24 what 10", x.about(10), NONE);
        due.is("24 what least", x.about(Integer.MIN_VALUE), NONE);
        x.wedding(1800, 0, 0);
        x.laws(1, 2, 3, 4, 5);
        x.budget(6, 7);
        int[] want = {1, 2, 6, 0, 1, 2, 3, 4, 5, 7};
        for (int what = 0; what < 10; what++) {
            due.is("24 about(" + what + ")", x.about(what), want[what]);
        }
    }

    /** Questions whose roles are not there don't have the ways sought; a way's number doesn't matter. */
    private static void notSought() {
        KinBench x = new KinBench();
        x.list(1800, 0, 0, NONE);
        x.list(1800, 0, 0, NONE);
        due.is("24 link", x.link(0, 2), NONE);
        due.is("24 person", x.person(0, 2), NONE);
        due.is("24 first", x.first(2, 0, true), NONE);
        due.is("24 why", x.why(0, -1), NONE);
        due.is("24 kin", x.kin(0, 2, 0), NONE);
        due.is("24 always", x.always(0, 2), -3);
        due.is("24 role", x.role(0, 0), 0);
        due.is("24 not sought", x.about(3), 0);
        due.is("24 person", x.person(7, 1), NONE);
        due.is("24 one, then two", x.about(3), 3);
    }

    private static void tries() {
        KinBench x = new KinBench();
        x.list(1800, 0, 0, NONE);
        x.list(1800, 0, 0, NONE);
        due.is("24 without", x.about(3), 0);
        due.is("24 link", x.link(0, 0), 1);
        due.is("24 sought", x.about(3), 3);
        x.copy(0, 0, 0, 0);
        due.is("24 not sought again yet", x.about(3), 3);
        due.is("24 ways", x.ways(), 2);
        due.is("24 a copy's role is one try", x.about(3), 5);
        due.is("24 sets of records", x.why(0, 2), 5);
        due.is("24 of all records still", x.about(3), 5);
        x.budget(1, 1);
        due.is("24 quarrel", x.quarrel(), NONE);
        due.is("24 too dear is tried too", x.about(3), 4);
        x.drop();
        x.wedding(1800, 0, 0);
        x.budget(9, 1);
        due.is("24 cost", x.cost(-1), NONE);
        due.is("24 own record is tried too", x.about(3), 1 + 2 + (2 + 3) + (2 + 3 + 3 + 3 + 4));
        x.drop();
        x.drop();
        x.drop();
        due.is("24 the latest", x.about(3), 23);
        due.is("24 no roles", x.ways(), 1);
        due.is("24 no tries", x.about(3), 0);
    }
}
