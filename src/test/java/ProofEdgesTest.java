/** Promises 20 to 23 at their edges, sentence by sentence: least sets of records, and kin. */
public final class ProofEdgesTest {
    private static final Due due = new Due("ProofEdgesTest");
    private static final int NONE = KinBench.NONE;
    private static final int LEAST = Integer.MIN_VALUE;
    private static final int MOST = Integer.MAX_VALUE;
    private static final long ANN = Due.name("ann");
    private static final long ANNA = Due.name("anna");
    private static final long HANS = Due.name("hans");
    private static final long JAN = Due.name("jan");

    public static void main(String[] args) {
        whyBounds();
        whyNotShown();
        whyOfItself();
        whyOfOneRecord();
        whyOfAllRecords();
        whyOfTheLastRecord();
        whyByHowMany();
        whyByNumber();
        whyWithCopies();
        whyAtMostWays();
        whyOverMostWays();
        quarrelOfNone();
        quarrelOfOne();
        quarrelOfAllRecords();
        quarrelByHowMany();
        quarrelByNumber();
        quarrelWithCopies();
        quarrelAtMostWays();
        quarrelOverMostWays();
        quarrelSpent();
        kinBounds();
        kinOfItself();
        kinOfOneStep();
        kinOfLeastSteps();
        kinOfLeastUp();
        kinOfFoundlings();
        kinOfCopies();
        kinAfterDrop();
        longestKin();
        alwaysBounds();
        alwaysOfOneWay();
        alwaysNone();
        alwaysDiffers();
        alwaysWithoutWays();
        fullBench();
        refusedQuestions();
        due.end();
    }

    /** Two who are joined for want of money, and others who each have a century alone. */
    private static KinBench tight(int others) {
        KinBench x = new KinBench();
        x.list(0, 0, ANN, NONE);
        x.list(0, 0, ANN, NONE);
        for (int i = 0; i < others; i++) {
            x.list(300 * (i + 1), 0, 0, NONE);
        }
        x.budget(others + 1, 1);
        return x;
    }

    private static void whyBounds() {
        due.says(20, "NONE if there is none such");
        KinBench x = tight(0);
        for (int wrong : new int[] {-1, 2, 14, LEAST, MOST}) {
            for (int right = 0; right < 2; right++) {
                due.is("roles " + wrong + ", " + right, x.why(wrong, right), NONE);
                due.is("roles " + right + ", " + wrong, x.why(right, wrong), NONE);
            }
            due.is("roles " + wrong + ", itself", x.why(wrong, wrong), NONE);
        }
        due.is("both there", x.why(0, 1), 3);
        due.is("both there", x.why(1, 0), 3);
    }

    private static void whyNotShown() {
        due.says(20, "NONE if it is not SHOWN");
        KinBench x = tight(1);
        due.is("SHOWN", x.why(0, 1), 7);
        due.is("BARRED", x.why(0, 2), NONE);
        x.budget(3, 1);
        due.is("OPEN", x.why(0, 1), NONE);
        x.budget(1, 1);
        due.is("no WAY", x.why(0, 1), NONE);
        due.is("no WAY, of itself", x.why(0, 0), NONE);
    }

    private static void whyOfItself() {
        due.says(20, "Of one ROLE with itself a LINK is SHOWN");
        KinBench x = tight(6);
        for (int role = 0; role < 8; role++) {
            due.is("its own record alone, " + role, x.why(role, role), 1 << role);
        }
    }

    private static void whyOfOneRecord() {
        due.says(20, "sets that have both ROLES' RECORDS alone are looked at");
        KinBench x = new KinBench();
        x.birth(1800, 0, 0, 0, 0);
        for (int a = 0; a < 3; a++) {
            for (int b = 0; b < 3; b++) {
                due.is("roles " + a + ", " + b + " of one record", x.why(a, b), a == b ? 1 : NONE);
            }
        }
    }

    private static void whyOfAllRecords() {
        due.says(20, "A least set of RECORDS from which a LINK FOLLOWS, as bits (8 RECORDS at most)");
        for (int others = 0; others <= 6; others++) {
            KinBench x = tight(others);
            due.is("all " + (others + 2), x.why(0, 1), (1 << (others + 2)) - 1);
            due.is("SHOWN", x.link(0, 1), 1);
        }
    }

    private static void whyOfTheLastRecord() {
        due.says(20, "A least set of RECORDS from which a LINK FOLLOWS, as bits (8 RECORDS at most)");
        KinBench x = Telling.withRecords(7);
        x.copy(0, 0, 0, 0);
        due.is("the first and the eighth", x.why(0, 7), 1 << 7 | 1);
        due.is("the eighth and the first", x.why(7, 0), 1 << 7 | 1);
        KinBench y = Telling.withRecords(7);
        y.copy(6, 0, 0, 0);
        due.is("the last two", y.why(6, 7), 3 << 6);
        due.is("the eighth with itself", y.why(7, 7), 3 << 6);
    }

    private static void whyByHowMany() {
        due.says(20, "by how many, then by their number");
        KinBench x = new KinBench();
        x.list(0, 0, ANN, NONE);
        x.list(0, 0, ANN, NONE);
        x.list(300, 0, 0, NONE);
        x.list(300, 0, 0, NONE);
        x.wedding(600, 0, 0);
        x.budget(4, 1);
        due.is("ways", x.ways(), 1);
        due.is("a wedding, rather than two in one year", x.why(0, 1), 1 | 2 | 4 | 16);
        due.is("the two in one year", x.why(2, 3), 1 | 4 | 8 | 16);
        x.budget(5, 1);
        due.is("not SHOWN any more", x.why(0, 1), NONE);
    }

    private static void whyByNumber() {
        due.says(20, "by how many, then by their number");
        KinBench x = new KinBench();
        x.list(0, 0, ANN, NONE);
        x.list(300, 0, 0, NONE);
        x.list(0, 0, ANN, NONE);
        x.list(300, 0, 0, NONE);
        x.budget(2, 1);
        due.is("ways", x.ways(), 1);
        due.is("of two sets of three, the lower number", x.why(0, 2), 1 | 4 | 2);
        due.is("of two sets of three, the lower number", x.why(1, 3), 1 | 2 | 8);
        KinBench y = new KinBench();
        y.list(0, 0, 0, NONE);
        y.list(300, 0, ANN, NONE);
        y.list(0, 0, 0, NONE);
        y.list(300, 0, ANN, NONE);
        y.budget(2, 1);
        due.is("the first record in it, not the third", y.why(1, 3), 1 | 2 | 8);
    }

    private static void whyWithCopies() {
        due.says(20, "Sets of RECORDS are those that have no COPY without what it is of");
        KinBench x = new KinBench();
        x.list(0, 0, ANN, NONE);
        x.list(300, 0, 0, NONE);
        x.copy(0, ANN, 0, 0);
        x.copy(0, HANS, 0, 0);
        due.is("a copy with itself", x.why(2, 2), 5);
        due.is("a copy and what it is of", x.why(0, 2), 5);
        due.is("two copies", x.why(2, 3), 13);
        due.is("what it is of, with itself", x.why(0, 0), 1);
        due.is("another, without the copies and what they are of", x.why(1, 1), 2);
    }

    /** Records that have 3,000 ways with BUDGET 13, and two or three who leave them less. */
    private static KinBench ofMostWays(int others) {
        KinBench x = new KinBench();
        x.witness(1808, 2, JAN, 2, JAN);
        x.witness(1802, 1, 0, 0, JAN);
        x.witness(1802, 0, 0, 0, ANNA);
        x.witness(1805, 2, 0, 2, ANN);
        x.wedding(1802, 0, 0);
        return withOthers(x, others, 13);
    }

    private static KinBench withOthers(KinBench x, int others, int budget) {
        for (int i = 0; i < others; i++) {
            x.list(2300 + 200 * i, 0, 0, NONE);
        }
        x.budget(budget, 2);
        return x;
    }

    private static void whyAtMostWays() {
        due.says(20, "NONE if a set that was looked at is SPENT: one of 3,000 WAYS is not");
        due.is("ways of the five alone", ofMostWays(0).ways(), 3000);
        KinBench x = ofMostWays(2);
        due.is("ways of all", x.ways(), 80);
        due.is("SHOWN", x.link(2, 8), 1);
        due.is("why, after the five alone were looked at", x.why(2, 8), 123);
        due.is("tries of all", x.about(3) < 300000, true);
    }

    private static KinBench ofTooManyWays(int others) {
        KinBench x = new KinBench();
        x.witness(1803, 2, ANN, 0, 0);
        x.wedding(1800, JAN, JAN);
        x.wedding(1802, ANN, ANNA);
        x.wedding(1801, ANN, ANN);
        x.wedding(1802, 0, HANS);
        return withOthers(x, others, 18);
    }

    private static void whyOverMostWays() {
        due.says(20, "NONE if a set that was looked at is SPENT: one of 3,001 WAYS is");
        due.is("ways of the five alone", ofTooManyWays(0).ways(), -2);
        KinBench x = ofTooManyWays(3);
        due.is("ways of all", x.ways(), 32);
        due.is("SHOWN", x.link(0, 7), 1);
        due.is("SHOWN", x.link(4, 6), 1);
        due.is("why", x.why(0, 7), NONE);
        due.is("why", x.why(4, 6), NONE);
        due.is("of a smaller set before it", x.why(0, 0), 1);
        due.is("ways of all still", x.ways(), 32);
    }

    private static void quarrelOfNone() {
        due.says(21, "NONE if there are WAYS");
        due.is("no RECORDS", new KinBench().quarrel(), NONE);
        for (int others = 0; others <= 6; others++) {
            due.is("ways of " + (others + 2), tight(others).quarrel(), NONE);
        }
    }

    private static void quarrelOfOne() {
        due.says(21, "A least set of RECORDS that QUARREL");
        for (int place = 0; place < 8; place++) {
            KinBench x = new KinBench();
            x.laws(40, 40, 40, 39, 0);
            for (int i = 0; i < 8; i++) {
                if (i == place) {
                    x.witness(1800, 0, 0, NONE, 0);
                } else {
                    x.found(1800, 0, 0);
                }
            }
            due.is("the one at " + place, x.quarrel(), 1 << place);
        }
    }

    private static void quarrelOfAllRecords() {
        due.says(21, "A least set of RECORDS that QUARREL, as bits (8 RECORDS at most)");
        for (int records = 1; records <= 8; records++) {
            KinBench x = Telling.withRecords(records);
            x.budget(records, 1);
            due.is("money for all " + records, x.quarrel(), NONE);
            x.budget(records - 1, 1);
            due.is("one too little for all " + records, x.quarrel(), (1 << records) - 1);
            x.budget(0, 1);
            due.is("money for none of " + records, x.quarrel(), 1);
        }
    }

    private static void quarrelByHowMany() {
        due.says(21, "likewise (by how many, then by their number)");
        KinBench x = new KinBench();
        x.found(0, 0, 0);
        x.found(0, 0, 0);
        x.found(0, 0, 0);
        x.wedding(2000, 0, 0);
        x.wedding(2500, 0, 0);
        x.budget(3, 1);
        due.is("two weddings, rather than a wedding and two", x.quarrel(), 8 | 16);
        x.drop();
        due.is("a wedding and two, the lower number", x.quarrel(), 1 | 2 | 8);
        x.drop();
        due.is("three are not too many", x.quarrel(), NONE);
    }

    private static void quarrelByNumber() {
        due.says(21, "likewise (by how many, then by their number)");
        KinBench x = new KinBench();
        x.list(0, 0, 0, NONE);
        x.list(300, 0, 0, NONE);
        x.list(0, 0, 0, NONE);
        x.list(600, 0, 0, NONE);
        x.budget(2, 1);
        due.is("first, second and fourth", x.quarrel(), 1 | 2 | 8);
        x.budget(1, 1);
        due.is("first and second", x.quarrel(), 1 | 2);
    }

    private static void quarrelWithCopies() {
        due.says(21, "Sets of RECORDS are those that have no COPY without what it is of");
        KinBench x = new KinBench();
        x.laws(40, 40, 40, 39, 0);
        x.found(1800, 0, 0);
        x.witness(1800, 0, 0, NONE, 0);
        x.copy(1, 0, 0, 0);
        due.is("what the copy is of, alone", x.quarrel(), 2);
        x.drop();
        x.copy(0, 0, 0, 0);
        due.is("without a copy and what it is of", x.quarrel(), 2);
        KinBench y = Telling.withRecords(2);
        y.copy(0, 0, 0, 0);
        y.found(1900, 0, 0);
        y.budget(2, 1);
        due.is("without the copy", y.quarrel(), 1 | 2 | 8);
    }

    private static void quarrelAtMostWays() {
        due.says(21, "likewise: NONE if a set that was looked at is SPENT: one of 3,000 WAYS is not");
        KinBench x = ofMostWays(3);
        due.is("ways of all", x.ways(), 0);
        due.is("quarrel, after the five alone were looked at", x.quarrel(), 235);
    }

    private static KinBench ofTooManyWaysToo(int others) {
        KinBench x = new KinBench();
        x.witness(1806, 1, 0, 0, 0);
        x.wedding(1807, ANNA, ANN);
        x.witness(1808, 2, JAN, 1, ANNA);
        x.witness(1806, 1, HANS, 1, JAN);
        x.witness(1805, 2, 0, 0, 0);
        return withOthers(x, others, 15);
    }

    private static void quarrelOverMostWays() {
        due.says(21, "likewise: NONE if a set that was looked at is SPENT: one of 3,001 WAYS is");
        due.is("ways of the five alone", ofTooManyWaysToo(0).ways(), -2);
        KinBench x = ofTooManyWaysToo(3);
        due.is("ways of all", x.ways(), 0);
        due.is("quarrel", x.quarrel(), NONE);
        x.budget(1, 2);
        due.is("money for none", x.quarrel(), 1);
    }

    private static void quarrelSpent() {
        due.says(21, "NONE if there are WAYS, or SPENT");
        KinBench x = new KinBench();
        for (int i = 0; i < 8; i++) {
            x.list(1800, 0, 0, NONE);
        }
        due.is("ways", x.ways(), -2);
        due.is("quarrel", x.quarrel(), NONE);
    }

    private static KinBench family() {
        KinBench x = new KinBench();
        x.birth(1800, 1, Due.name("eva"), Due.name("ida"), Due.name("kurt"));
        x.birth(1830, 2, Due.name("otto"), Due.name("eva"), Due.name("bob"));
        x.birth(1832, 1, Due.name("uta"), Due.name("eva"), Due.name("bob"));
        x.birth(1860, 1, Due.name("pia"), Due.name("rosamund"), Due.name("otto"));
        x.budget(8, 1);
        return x;
    }

    private static void kinBounds() {
        due.says(22, "KIN of the PERSON of a ROLE b to that of a in WAY k; NONE if none, or there is none such");
        KinBench x = family();
        due.is("ways", x.ways(), 1);
        for (int wrong : new int[] {-1, 1, LEAST, MOST}) {
            due.is("way " + wrong, x.kin(wrong, 0, 0), NONE);
        }
        for (int wrong : new int[] {-1, 12, 14, LEAST, MOST}) {
            due.is("role a " + wrong, x.kin(0, wrong, 0), NONE);
            due.is("role b " + wrong, x.kin(0, 0, wrong), NONE);
            due.is("both " + wrong, x.kin(0, wrong, wrong), NONE);
        }
        due.is("the last role, the first", x.kin(0, 11, 0), 100);
        due.is("the first role, the last", x.kin(0, 0, 11), 1);
    }

    private static void kinOfItself() {
        due.says(22, "told as 100 * u + d (no step at all)");
        KinBench x = family();
        for (int role = 0; role < 12; role++) {
            due.is("role " + role, x.kin(0, role, role), 0);
        }
        due.is("two roles of one person", x.kin(0, 0, 4), 0);
    }

    private static void kinOfOneStep() {
        due.says(22, "a PERSON's parents are the mother and father of its BIRTH");
        KinBench x = family();
        due.is("mother", x.kin(0, 0, 1), 100);
        due.is("father", x.kin(0, 0, 2), 100);
        due.is("her child", x.kin(0, 1, 0), 1);
        due.is("his child", x.kin(0, 2, 0), 1);
        due.is("mother and father are no kin", x.kin(0, 1, 2), NONE);
    }

    private static void kinOfLeastSteps() {
        due.says(22, "u steps up from r, then d steps down, lead to s: with least u + d");
        KinBench x = family();
        due.is("brother", x.kin(0, 6, 3), 101);
        due.is("aunt", x.kin(0, 9, 6), 201);
        due.is("niece", x.kin(0, 6, 9), 102);
        due.is("great-grandmother", x.kin(0, 9, 1), 300);
        due.is("great-grandchild", x.kin(0, 1, 9), 3);
        due.is("a wife's mother", x.kin(0, 5, 1), NONE);
    }

    /** Each of two women is the other's mother, and so is her daughter, too: two ways to be kin, of one step each. */
    private static void kinOfLeastUp() {
        due.says(22, "with least u + d, then least u");
        KinBench x = new KinBench();
        x.laws(0, 80, 120, 130, 0);
        x.birth(1800, 1, Due.name("aaaaaaaa"), Due.name("bbbbbbbb"), Due.name("cccccccc"));
        x.birth(1800, 1, Due.name("bbbbbbbb"), Due.name("aaaaaaaa"), Due.name("dddddddd"));
        x.budget(4, 1);
        due.is("ways", x.ways(), 1);
        due.is("her mother is her daughter: down", x.kin(0, 0, 3), 1);
        due.is("and the other way: down", x.kin(0, 3, 0), 1);
        due.is("her father's wife's child", x.kin(0, 2, 3), 2);
    }

    private static void kinOfFoundlings() {
        due.says(22, "FOUND: a child alone, whose birth it is");
        KinBench x = Telling.withRecords(2);
        due.is("two who were found", x.kin(0, 0, 1), NONE);
        due.is("itself", x.kin(0, 1, 1), 0);
    }

    private static void kinOfCopies() {
        due.says(22, "the mother and father of its BIRTH (its own alone; also of a COPY)");
        KinBench x = new KinBench();
        x.birth(1800, 1, ANN, ANNA, HANS);
        x.copy(0, 0, 0, 0);
        for (int child = 0; child <= 3; child += 3) {
            due.is("mother", x.kin(0, child, 1), 100);
            due.is("mother of the copy", x.kin(0, child, 4), 100);
            due.is("father", x.kin(0, child, 2), 100);
            due.is("father of the copy", x.kin(0, child, 5), 100);
        }
        due.is("father to mother", x.kin(0, 4, 2), NONE);
    }

    private static void kinAfterDrop() {
        due.says(9, "The latest RECORD is there no more");
        KinBench x = new KinBench();
        for (int i = 0; i < 6; i++) {
            x.birth(1800, 1, ANN, ANNA, HANS);
            due.is("mother", x.kin(0, 0, 1), 100);
            due.is("drop", x.drop(), true);
            x.found(1800, 1, ANN);
            x.wedding(1800, ANNA, HANS);
            due.is("no mother", x.kin(0, 0, 1), NONE);
            due.is("never a mother", x.always(0, 1), NONE);
            due.is("drop", x.drop() && x.drop(), true);
        }
    }

    private static void longestKin() {
        due.says(22, "Steps of 10 at most each way are looked at (4 BIRTHS at most, of 14 ROLES)");
        KinBench x = new KinBench();
        String[] line = {"aaaaaaaa", "bbbbbbbb", "cccccccc", "dddddddd", "eeeeeeee"};
        String[] mothers = {"pppppppp", "qqqqqqqq", "rrrrrrrr", "ssssssss"};
        for (int i = 0; i < 4; i++) {
            x.birth(1800 + 20 * i, 2, Due.name(line[i + 1]), Due.name(mothers[i]), Due.name(line[i]));
        }
        x.budget(9, 1);
        due.is("ways", x.ways(), 1);
        for (int up = 1; up <= 4; up++) {
            due.is("up " + up, x.kin(0, 9, 3 * (4 - up) + 2), 100 * up);
            due.is("down " + up, x.kin(0, 2, 3 * (up - 1)), up);
        }
        due.is("always up", x.always(9, 2), 400);
        due.is("always down", x.always(2, 9), 4);
    }

    private static void alwaysBounds() {
        due.says(23, "-3 without WAYS, or SPENT, or such ROLES");
        KinBench x = family();
        for (int wrong : new int[] {-1, 12, 14, LEAST, MOST}) {
            due.is("role a " + wrong, x.always(wrong, 0), -3);
            due.is("role b " + wrong, x.always(0, wrong), -3);
            due.is("both " + wrong, x.always(wrong, wrong), -3);
        }
        due.is("the last role, the first", x.always(11, 0), 100);
        due.is("the first role, the last", x.always(0, 11), 1);
    }

    private static void alwaysOfOneWay() {
        due.says(23, "KIN, if it is the same in all WAYS");
        KinBench x = family();
        due.is("ways", x.ways(), 1);
        for (int a = 0; a < 12; a++) {
            for (int b = 0; b < 12; b++) {
                due.is("roles " + a + ", " + b, x.always(a, b), x.kin(0, a, b));
            }
        }
    }

    private static void alwaysNone() {
        due.says(23, "none at all counts as one, too: NONE then");
        KinBench x = new KinBench();
        x.birth(1800, 0, 0, 0, 0);
        due.is("of one way", x.always(1, 2), NONE);
        x.list(1800, 0, 0, NONE);
        due.is("ways", x.ways(), 4);
        due.is("of all ways", x.always(1, 2), NONE);
        due.is("but of some", x.always(0, 3), -2);
    }

    private static void alwaysDiffers() {
        due.says(23, "-2 if not (the same in all WAYS)");
        KinBench x = new KinBench();
        x.birth(1800, 1, ANN, HANS, JAN);
        x.list(1800, 1, ANN, NONE);
        due.is("ways", x.ways(), 2);
        due.is("kin in the first", x.kin(0, 3, 1), 100);
        due.is("none in the last", x.kin(1, 3, 1), NONE);
        due.is("differs", x.always(3, 1), -2);
        due.is("itself never differs", x.always(3, 3), 0);
        due.is("itself in the first, none in the last", x.always(0, 3), -2);
    }

    private static void alwaysWithoutWays() {
        due.says(23, "-3 without WAYS");
        KinBench x = family();
        x.budget(7, 1);
        due.is("ways", x.ways(), 0);
        due.is("itself", x.always(0, 0), -3);
        due.is("mother", x.always(0, 1), -3);
        due.is("no RECORDS", new KinBench().always(0, 0), -3);
    }

    /** Eight records and fourteen roles, all of whom are others. */
    private static KinBench full() {
        KinBench x = new KinBench();
        for (int i = 0; i < 6; i++) {
            x.wedding(400 * i, ANN, HANS);
        }
        x.found(2600, 1, ANN);
        x.death(2800, 2, HANS, 10);
        x.budget(14, 1);
        return x;
    }

    private static void fullBench() {
        due.says(21, "RECORDS, 8 at most; ROLES, 14 in all");
        KinBench x = full();
        due.is("RECORDS", x.about(0), 8);
        due.is("ROLES", x.about(1), 14);
        due.is("ways", x.ways(), 1);
        due.is("tries", x.about(3), 14 * 15 / 2);
        due.is("cost", x.cost(0), 14);
        for (int role = 0; role < 14; role++) {
            due.is("person of " + role, x.person(0, role), role);
            due.is("link with itself, " + role, x.link(role, role), 1);
            due.is("link with the last, " + role, x.link(role, 13), role == 13 ? 1 : 0);
            due.is("why with itself, " + role, x.why(role, role), 1 << (role < 12 ? role / 2 : role - 6));
            due.is("kin of the last, " + role, x.kin(0, role, 13), role == 13 ? 0 : NONE);
        }
        due.is("quarrel", x.quarrel(), NONE);
        x.budget(13, 1);
        due.is("one too little", x.ways(), 0);
        due.is("all quarrel", x.quarrel(), 255);
        x.budget(12, 1);
        due.is("the six weddings and the found, one less", x.quarrel(), 127);
        x.budget(11, 1);
        due.is("the six weddings", x.quarrel(), 63);
    }

    private static void refusedQuestions() {
        due.says(24, "no question changes what a later call shows, but for TRIES once the WAYS are sought");
        KinBench x = full();
        KinBench y = full();
        due.is("ways of both", x.ways(), y.ways());
        for (int wrong : new int[] {-1, 14, LEAST, MOST}) {
            x.role(wrong, wrong);
            x.role(0, wrong);
            x.person(wrong, wrong);
            x.person(wrong, 13);
            x.cost(wrong);
            x.link(wrong, 0);
            x.first(0, wrong, false);
            x.why(wrong, 0);
            x.kin(wrong, 0, 13);
            x.kin(0, wrong, wrong);
            x.always(0, wrong);
            x.about(wrong);
            x.far(wrong, ANN);
        }
        x.quarrel();
        x.why(0, 0);
        Alike.check(due, "questions without answers", x, y);
    }
}
