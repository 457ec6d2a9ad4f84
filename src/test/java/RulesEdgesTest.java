/** Promises 10 to 13 and 24 at their edges, sentence by sentence. */
public final class RulesEdgesTest {
    private static final Due due = new Due("RulesEdgesTest");
    private static final int NONE = KinBench.NONE;
    private static final int LEAST = Integer.MIN_VALUE;
    private static final int MOST = Integer.MAX_VALUE;
    private static final long ANN = Due.name("ann");

    public static void main(String[] args) {
        atFirst();
        grown();
        mother();
        father();
        life();
        round();
        lawsTogether();
        lawsOnAFullBench();
        soundLetters();
        soundItself();
        soundNotOfItself();
        soundTwice();
        budgetBounds();
        priceBounds();
        farLength();
        farNotTold();
        farWrong();
        farSigns();
        farWithSounds();
        aboutWhat();
        aboutRecords();
        triesWithout();
        triesOfQuestions();
        triesOfRoles();
        triesAgain();
        due.end();
    }

    private static KinBench bench() {
        KinBench x = new KinBench();
        x.laws(10, 40, 60, 90, 5);
        x.budget(7, 1);
        x.sound(2, 10, true);
        x.birth(1800, 1, Due.name("cat"), ANN, 0);
        x.list(1820, 1, Due.name("kat"), 20);
        return x;
    }

    private static void atFirst() {
        due.says(1, "GROWN (14 at first), MOTHER (50), FATHER (70), LIFE (100), ROUND (2); PRICE (0 at first), BUDGET (0 at first)");
        KinBench x = new KinBench();
        int[] want = {14, 50, 70, 100, 2, 0};
        for (int i = 0; i < want.length; i++) {
            due.is("about(" + (4 + i) + ")", x.about(4 + i), want[i]);
        }
        due.is("about(2)", x.about(2), 0);
    }

    private static void takes(int... laws) {
        KinBench x = new KinBench();
        String call = "laws(" + laws[0] + ", " + laws[1] + ", " + laws[2] + ", " + laws[3] + ", " + laws[4] + ")";
        due.is(call, x.laws(laws[0], laws[1], laws[2], laws[3], laws[4]), true);
        for (int i = 0; i < 5; i++) {
            due.is(call + ", about(" + (4 + i) + ")", x.about(4 + i), laws[i]);
        }
    }

    private static void refuses(int... laws) {
        KinBench x = bench();
        String call = "laws(" + laws[0] + ", " + laws[1] + ", " + laws[2] + ", " + laws[3] + ", " + laws[4] + ")";
        x.ways();
        due.is(call, x.laws(laws[0], laws[1], laws[2], laws[3], laws[4]), false);
        Alike.check(due, call, x, asked(bench()));
    }

    private static KinBench asked(KinBench x) {
        x.ways();
        return x;
    }

    private static void grown() {
        due.says(10, "GROWN (0 .. 40, 14 at first)");
        takes(0, 50, 70, 100, 2);
        takes(40, 50, 70, 100, 2);
        takes(40, 80, 120, 130, 20);
        for (int wrong : new int[] {-1, 41, LEAST, MOST}) {
            refuses(wrong, 50, 70, 100, 2);
        }
    }

    private static void mother() {
        due.says(10, "MOTHER (GROWN .. 80, 50)");
        for (int grown : new int[] {0, 1, 14, 40}) {
            takes(grown, grown, 70, 100, 2);
            takes(grown, 80, 70, 100, 2);
            for (int wrong : new int[] {grown - 1, 81, LEAST, MOST, -1}) {
                refuses(grown, wrong, 70, 100, 2);
            }
        }
    }

    private static void father() {
        due.says(10, "FATHER (GROWN .. 120, 70)");
        for (int grown : new int[] {0, 1, 14, 40}) {
            takes(grown, 50, grown, 100, 2);
            takes(grown, 50, 120, 100, 2);
            for (int wrong : new int[] {grown - 1, 121, LEAST, MOST, -1}) {
                refuses(grown, 50, wrong, 100, 2);
            }
        }
    }

    private static void life() {
        due.says(10, "LIFE (1 .. 130, 100)");
        takes(14, 50, 70, 1, 2);
        takes(14, 50, 70, 130, 2);
        for (int wrong : new int[] {0, -1, 131, LEAST, MOST}) {
            refuses(14, 50, 70, wrong, 2);
        }
    }

    private static void round() {
        due.says(10, "ROUND (0 .. 20, 2)");
        takes(14, 50, 70, 100, 0);
        takes(14, 50, 70, 100, 20);
        for (int wrong : new int[] {-1, 21, LEAST, MOST}) {
            refuses(14, 50, 70, 100, wrong);
        }
    }

    private static void lawsTogether() {
        due.says(10, "LAWS: true; false, doing nothing, if one can't be");
        takes(0, 0, 0, 1, 0);
        takes(40, 40, 40, 1, 0);
        refuses(41, 81, 121, 131, 21);
        refuses(-1, -1, -1, 0, -1);
        refuses(41, 41, 41, 100, 2);
        KinBench x = new KinBench();
        due.is("up to GROWN 20", x.laws(20, 20, 20, 100, 2), true);
        due.is("MOTHER under the new GROWN, not under the old", x.laws(30, 25, 30, 100, 2), false);
        due.is("as before", x.about(4) + x.about(5) + x.about(6), 60);
        due.is("MOTHER over the new GROWN, not over the old", x.laws(10, 12, 12, 100, 2), true);
        due.is("taken", x.about(4) * 10000 + x.about(5) * 100 + x.about(6), 101212);
    }

    private static void lawsOnAFullBench() {
        due.says(10, "LAWS: true");
        KinBench x = Telling.withRoles(14);
        due.is("ways", x.ways(), 1);
        due.is("nobody grows up", x.laws(40, 40, 40, 39, 0), true);
        due.is("no way for the wedding", x.ways(), 0);
        due.is("wrong laws", x.laws(40, 40, 40, 0, 0), false);
        due.is("no way still", x.ways(), 0);
        due.is("just so", x.laws(40, 40, 40, 40, 0), true);
        due.is("a way again", x.ways(), 1);
    }

    private static void soundLetters() {
        due.says(11, "Two letters (0 a .. 25 z) SOUND alike, or not: true; false, doing nothing, if one can't be");
        KinBench x = bench();
        x.ways();
        for (int wrong : new int[] {-1, 26, LEAST, MOST, 'a', 'z'}) {
            for (int right = 0; right <= 25; right += 25) {
                due.is("sound(" + wrong + ", " + right + ")", x.sound(wrong, right, true), false);
                due.is("sound(" + right + ", " + wrong + ")", x.sound(right, wrong, true), false);
                due.is("not sound(" + wrong + ", " + right + ")", x.sound(wrong, right, false), false);
                due.is("not sound(" + right + ", " + wrong + ")", x.sound(right, wrong, false), false);
            }
            due.is("sound(" + wrong + ", itself)", x.sound(wrong, wrong, true), false);
        }
        Alike.check(due, "wrong letters", x, asked(bench()));
        KinBench y = new KinBench();
        due.is("a and z", y.sound(0, 25, true), true);
        due.is("a for z", y.far('a', 'z'), 0);
        due.is("z for a", y.far('z', 'a'), 0);
        due.is("a for y", y.far('a', 'y'), 1);
        due.is("z and a not", y.sound(25, 0, false), true);
        due.is("a for z", y.far('a', 'z'), 1);
        due.is("z for a", y.far('z', 'a'), 1);
    }

    private static void soundItself() {
        due.says(11, "each with itself always");
        KinBench x = bench();
        x.ways();
        for (int letter = 0; letter < 26; letter++) {
            due.is("itself " + letter, x.sound(letter, letter, true), true);
            due.is("far " + letter, x.far('a' + letter, 'a' + letter), 0);
        }
        Alike.check(due, "each with itself", x, asked(bench()));
    }

    private static void soundNotOfItself() {
        due.says(11, "each with itself always: false, doing nothing, if one can't be");
        KinBench x = bench();
        x.ways();
        for (int letter = 0; letter < 26; letter++) {
            due.is("not itself " + letter, x.sound(letter, letter, false), false);
            due.is("far " + letter, x.far('a' + letter, 'a' + letter), 0);
        }
        Alike.check(due, "none with itself", x, asked(bench()));
    }

    private static void soundTwice() {
        due.says(11, "Two letters SOUND alike, or not: true");
        KinBench x = new KinBench();
        due.is("not, as at first", x.sound(3, 4, false), true);
        due.is("far", x.far('d', 'e'), 1);
        due.is("alike", x.sound(3, 4, true), true);
        due.is("alike again", x.sound(4, 3, true), true);
        due.is("far", x.far('d', 'e'), 0);
        due.is("not", x.sound(4, 3, false), true);
        due.is("far", x.far('d', 'e'), 1);
    }

    private static void budgetBounds() {
        due.says(12, "BUDGET (0 .. 300, 0 at first)");
        KinBench x = bench();
        x.ways();
        for (int wrong : new int[] {-1, 301, LEAST, MOST}) {
            due.is("budget(" + wrong + ", 0)", x.budget(wrong, 0), false);
            due.is("budget(" + wrong + ", 20)", x.budget(wrong, 20), false);
        }
        Alike.check(due, "wrong budgets", x, asked(bench()));
        due.is("300", x.budget(300, 1), true);
        due.is("about(2)", x.about(2), 300);
        due.is("0", x.budget(0, 1), true);
        due.is("about(2)", x.about(2), 0);
    }

    private static void priceBounds() {
        due.says(12, "PRICE (0 .. 20, 0 at first)");
        KinBench x = bench();
        x.ways();
        for (int wrong : new int[] {-1, 21, LEAST, MOST}) {
            due.is("budget(0, " + wrong + ")", x.budget(0, wrong), false);
            due.is("budget(300, " + wrong + ")", x.budget(300, wrong), false);
        }
        Alike.check(due, "wrong prices", x, asked(bench()));
        due.is("20", x.budget(7, 20), true);
        due.is("about(9)", x.about(9), 20);
        due.is("0", x.budget(7, 0), true);
        due.is("about(9)", x.about(9), 0);
    }

    private static void farLength() {
        due.says(13, "the least number of letters that are changed, put in or left out (0 to 8 letters)");
        KinBench x = new KinBench();
        String eight = "abcdefgh";
        String other = "ijklmnop";
        for (int i = 1; i <= 8; i++) {
            for (int j = 1; j <= 8; j++) {
                long a = Due.name(eight.substring(0, i));
                due.is("all of " + i + " and " + j, x.far(a, Due.name(other.substring(0, j))), Math.max(i, j));
                due.is("own " + i + " and " + j, x.far(a, Due.name(eight.substring(0, j))), Math.abs(i - j));
                due.is("ends " + i + " and " + j, x.far(a, Due.name(eight.substring(8 - j))), ends(i, j));
            }
        }
    }

    /** How far the first i of eight letters are from the last j: all are changed, or the ends are put in and left out. */
    private static int ends(int i, int j) {
        int kept = i + j - 8;
        return kept <= 0 ? Math.max(i, j) : Math.min(Math.max(i, j), i + j - 2 * kept);
    }

    private static void farNotTold() {
        due.says(13, "a NAME that is not told is 0 FAR from all");
        KinBench x = new KinBench();
        due.is("none, none", x.far(0, 0), 0);
        for (String name : new String[] {"a", "z", "aaaaaaaa", "zzzzzzzz"}) {
            due.is("none, " + name, x.far(0, Due.name(name)), 0);
            due.is(name + ", none", x.far(Due.name(name), 0), 0);
        }
    }

    private static void farWrong() {
        due.says(13, "NONE if one can't be");
        KinBench x = bench();
        for (long wrong : Due.noNames()) {
            due.is("far(" + wrong + ", ann)", x.far(wrong, ANN), NONE);
            due.is("far(ann, " + wrong + ")", x.far(ANN, wrong), NONE);
            due.is("far(0, " + wrong + ")", x.far(0, wrong), NONE);
            due.is("far(" + wrong + ", 0)", x.far(wrong, 0), NONE);
            due.is("far(" + wrong + ", itself)", x.far(wrong, wrong), NONE);
        }
        Alike.check(due, "far of no names", x, bench());
    }

    private static void farSigns() {
        due.says(13, "letters a .. z; the bytes of a long, the highest first, 0s ahead left out");
        for (int at = 0; at < 8; at++) {
            KinBench x = new KinBench();
            for (long sign = 0; sign < 256; sign++) {
                long name = Due.name("aaaaaaaa") & ~(255L << (8 * at)) | sign << (8 * at);
                boolean fine = sign >= 'a' && sign <= 'z' || sign == 0 && at == 7;
                due.is("sign " + sign + " at " + at, x.far(name, Due.name("aaaaaaaa")), !fine ? NONE : sign == 'a' ? 0 : 1);
                due.is("sign " + sign + " at " + at, x.far(ANN, name) == NONE, !fine);
            }
        }
        KinBench y = new KinBench();
        for (int sign = 0; sign < 256; sign++) {
            boolean fine = sign >= 'a' && sign <= 'z' || sign == 0;
            due.is("sign " + sign + " alone", y.far(sign, sign), fine ? 0 : NONE);
        }
    }

    private static void farWithSounds() {
        due.says(13, "a letter changed into one that SOUNDS like it counts nothing");
        KinBench x = new KinBench();
        long eight = Due.name("aaaaaaaa");
        for (int letter = 1; letter < 26; letter++) {
            due.is("sound(0, " + letter + ")", x.sound(0, letter, true), true);
            long other = 0;
            for (int i = 0; i < 8; i++) {
                other = other << 8 | 'a' + letter;
            }
            due.is("eight of " + letter, x.far(eight, other), 0);
            due.is("seven of " + letter, x.far(eight, other >>> 8), 1);
            due.is("one of " + letter, x.far('a' + letter, eight), 7);
        }
        due.is("not one by another", x.far('b', 'c'), 1);
    }

    private static void aboutWhat() {
        due.says(24, "What 0: RECORDS, .. 9: PRICE. NONE for another what.");
        KinBench x = bench();
        for (int wrong : new int[] {-1, 10, 11, LEAST, MOST}) {
            due.is("about(" + wrong + ")", x.about(wrong), NONE);
        }
        int[] want = {2, 4, 7, 0, 10, 40, 60, 90, 5, 1};
        for (int what = 0; what <= 9; what++) {
            due.is("about(" + what + ")", x.about(what), want[what]);
        }
    }

    private static void aboutRecords() {
        due.says(24, "What 0: RECORDS, 1: ROLES");
        KinBench x = new KinBench();
        due.is("no records", x.about(0) + x.about(1), 0);
        for (int i = 1; i <= 8; i++) {
            x.found(1800, 0, 0);
            due.is("records", x.about(0), i);
            due.is("roles", x.about(1), i);
        }
        x.found(1800, 0, 0);
        due.is("records of a full bench", x.about(0), 8);
        KinBench y = Telling.withRoles(14);
        due.is("roles of a full bench", y.about(1), 14);
        due.is("fewer records", y.about(0), 5);
    }

    private static void triesWithout() {
        due.says(24, "3: TRIES of the latest seeking (0 without)");
        KinBench x = bench();
        due.is("not sought", x.about(3), 0);
        x.role(0, 0);
        x.far(ANN, ANN);
        x.about(2);
        x.drop();
        x.laws(14, 50, 70, 100, 2);
        x.sound(0, 1, true);
        x.budget(50, 1);
        due.is("not sought by these", x.about(3), 0);
        KinBench y = new KinBench();
        due.is("of no roles", y.ways(), 1);
        due.is("there is no try", y.about(3), 0);
        y.found(1800, 0, 0);
        due.is("of one role", y.ways(), 1);
        due.is("there is one", y.about(3), 1);
    }

    private static int ask(KinBench x, int question, int a, int b) {
        switch (question) {
            case 0: return x.person(9, b);
            case 1: return x.link(a, b);
            case 2: return x.first(a, b, true);
            case 3: return x.why(a, b);
            case 4: return x.kin(-1, a, b);
            case 5: return x.always(a, b);
            case 6: return x.cost(-1);
            case 7: return x.quarrel();
            default: return x.ways();
        }
    }

    private static void triesOfQuestions() {
        due.says(24, "the WAYS are sought when a question asks for them for the first time");
        for (int question = 0; question <= 8; question++) {
            KinBench x = new KinBench();
            x.list(1800, 0, 0, NONE);
            x.list(1800, 0, 0, NONE);
            due.is("before question " + question, x.about(3), 0);
            ask(x, question, 0, 1);
            due.is("after question " + question, x.about(3), 3);
        }
    }

    private static void triesOfRoles() {
        due.says(24, "the WAYS are sought when a question whose ROLES are there asks for them");
        for (int question = 0; question <= 5; question++) {
            KinBench x = new KinBench();
            x.list(1800, 0, 0, NONE);
            x.list(1800, 0, 0, NONE);
            for (int wrong : new int[] {-1, 2, 14, LEAST, MOST}) {
                due.is("question " + question, ask(x, question, 0, wrong), question == 5 ? -3 : NONE);
                if (question > 0) {
                    due.is("question " + question, ask(x, question, wrong, 1), question == 5 ? -3 : NONE);
                }
            }
            due.is("not sought by question " + question, x.about(3), 0);
            ask(x, question, 1, 1);
            due.is("sought by question " + question, x.about(3), 3);
        }
    }

    private static void triesAgain() {
        due.says(24, "and again when something changed");
        KinBench x = new KinBench();
        x.list(1800, 0, ANN, NONE);
        x.list(1800, 0, Due.name("inn"), NONE);
        x.budget(9, 1);
        int[] ways = {5, 2, 0, 1, 1, 1};
        int[] tries = {8, 3, 3, 3, 3, 4};
        for (int change = 0; change < ways.length; change++) {
            x.ways();
            int before = x.about(3);
            switch (change) {
                case 0: x.list(1800, 0, 0, NONE); break;
                case 1: x.drop(); break;
                case 2: x.budget(1, 1); break;
                case 3: x.sound(0, 8, true); break;
                case 4: x.laws(14, 50, 70, 100, 0); break;
                default: x.copy(0, 0, 0, 0);
            }
            due.is("not yet sought again, change " + change, x.about(3), before);
            due.is("ways, change " + change, x.ways(), ways[change]);
            due.is("sought again, change " + change, x.about(3), tries[change]);
        }
    }
}
