/** Promises 15 to 19 at their edges, sentence by sentence: when a way is good, what it costs, how many there are. */
public final class WaysEdgesTest {
    private static final Due due = new Due("WaysEdgesTest");
    private static final int NONE = KinBench.NONE;
    private static final int LEAST = Integer.MIN_VALUE;
    private static final int MOST = Integer.MAX_VALUE;
    private static final int BARRED = 0;
    private static final int SHOWN = 1;
    private static final int OPEN = 2;
    private static final long ANN = Due.name("ann");
    private static final long ANNA = Due.name("anna");
    private static final long HANS = Due.name("hans");
    private static final long JAN = Due.name("jan");
    private static final int[][] LAWS = {{14, 50, 70, 100, 2}, {0, 0, 0, 1, 0}, {0, 80, 120, 130, 20},
        {40, 40, 40, 40, 20}, {40, 80, 120, 130, 1}, {1, 2, 3, 4, 5}};

    private static final int[][] ORDERS = {{0, 1, 2}, {0, 2, 1}, {1, 0, 2}, {1, 2, 0}, {2, 0, 1}, {2, 1, 0}};

    public static void main(String[] args) {
        for (int[] laws : LAWS) {
            children(laws);
            mothers(laws);
            fathers(laws);
            couples(laws);
            witnesses(laws);
            notAged(laws);
            for (int age : new int[] {0, 1, 60, 119, 120}) {
                deadAged(laws, age);
                listedAged(laws, age);
            }
        }
        lateFathers();
        noYearOfBirth();
        bornBeforeYears();
        lastYears();
        sexesAlike();
        sexesOfThree();
        for (int[] order : ORDERS) {
            yearsOfThree(order);
            deathOfThree(order);
            childrenOfThree(order);
            deathsOfThree(order);
        }
        recordOfThree();
        ofOneRecord();
        oneChild();
        oneDeath();
        for (int death : new int[] {0, 1850, 2998}) {
            yearsAfterDeath(death, true);
            yearsAfterDeath(death, false);
        }
        budgetJustSo();
        highestBudget();
        prices();
        priceOfFourteen();
        farNotTold();
        farOfCopies();
        emptyWay();
        mostWays();
        tooManyWays();
        mostTries();
        tooManyTries();
        triesOfACopy();
        personBounds();
        costBounds();
        linkBounds();
        linkWithoutWays();
        linkOfAll();
        firstBounds();
        firstEdges();
        whenNoWay();
        whenSpent();
        due.end();
    }

    private static KinBench under(int... laws) {
        KinBench x = new KinBench();
        due.is("laws", x.laws(laws[0], laws[1], laws[2], laws[3], laws[4]), true);
        return x;
    }

    /** Role 0 is of one found in a year: this joins the role of another record, or doesn't. */
    private static void born(int[] laws, int kind, int role, int age, int year, int born, boolean fits) {
        if (born < 0 || born > 3000) {
            return;
        }
        KinBench x = under(laws);
        x.found(born, 0, 0);
        if (kind == Telling.DEATH) {
            x.death(year, 0, 0, age);
        } else if (kind == Telling.LIST) {
            x.list(year, 0, 0, age);
        } else {
            Telling.tell(x, kind, year, 0);
        }
        due.is(Telling.nameOf(kind) + " in " + year + ", role " + role + ", age " + age + ", laws " + laws[0] + " "
                + laws[1] + " " + laws[2] + " " + laws[3] + " " + laws[4] + ", born in " + born,
                x.link(0, 1 + role), fits ? OPEN : BARRED);
    }

    /** The first and the last year of birth that fit, and those beside them. */
    private static void window(int[] laws, int kind, int role, int age, int first, int last) {
        for (int year : new int[] {1500, 200, 2850, 3000}) {
            born(laws, kind, role, age, year, year + first, true);
            born(laws, kind, role, age, year, year + last, true);
            born(laws, kind, role, age, year, year + first - 1, false);
            born(laws, kind, role, age, year, year + last + 1, false);
        }
    }

    private static void children(int[] laws) {
        due.says(15, "it is child in year y: b = y");
        for (int born = 1799; born <= 1801; born++) {
            KinBench x = under(laws);
            x.death(1800, 0, 0, 0);
            x.found(born, 0, 0);
            due.is("dead with 0 in 1800, found in " + born, x.link(0, 1), born == 1799 || born == 1800 ? OPEN : BARRED);
            KinBench y = under(laws);
            y.death(1800, 0, 0, 0);
            y.birth(born, 0, 0, 0, 0);
            due.is("dead with 0 in 1800, born in " + born, y.link(0, 1), born == 1799 || born == 1800 ? OPEN : BARRED);
        }
    }

    private static void mothers(int[] laws) {
        due.says(15, "mother: y - MOTHER to y - GROWN");
        window(laws, Telling.BIRTH, 1, NONE, -laws[1], -laws[0]);
    }

    private static void fathers(int[] laws) {
        due.says(15, "father: y - FATHER to y - GROWN");
        window(laws, Telling.BIRTH, 2, NONE, -laws[2], -laws[0]);
    }

    private static void couples(int[] laws) {
        due.says(15, "bride, groom: y - LIFE to y - GROWN");
        window(laws, Telling.WEDDING, 0, NONE, -laws[3], -laws[0]);
        window(laws, Telling.WEDDING, 1, NONE, -laws[3], -laws[0]);
    }

    private static void witnesses(int[] laws) {
        due.says(15, "WITNESS: y - LIFE to y - GROWN");
        window(laws, Telling.ONE_WITNESS, 0, NONE, -laws[3], -laws[0]);
        window(laws, Telling.TWO_WITNESSES, 0, NONE, -laws[3], -laws[0]);
        window(laws, Telling.TWO_WITNESSES, 1, NONE, -laws[3], -laws[0]);
    }

    private static void notAged(int[] laws) {
        due.says(15, "DEATH, LIST without an AGE: y - LIFE to y");
        window(laws, Telling.DEATH, 0, NONE, -laws[3], 0);
        window(laws, Telling.LIST, 0, NONE, -laws[3], 0);
    }

    private static void deadAged(int[] laws, int age) {
        due.says(15, "with AGE a: y - a - 1 to y - a");
        window(laws, Telling.DEATH, 0, age, -age - 1, -age);
    }

    private static void listedAged(int[] laws, int age) {
        due.says(15, "of a LIST y - a - 1 - ROUND to y - a + ROUND");
        window(laws, Telling.LIST, 0, age, -age - 1 - laws[4], -age + laws[4]);
    }

    /** Only a father may be of a year after the DEATH, so he alone tells that nobody is born after it. */
    private static void lateFathers() {
        due.says(15, "DEATH, LIST without an AGE: y - LIFE to y; with AGE a: y - a - 1 to y - a");
        for (int kind : new int[] {Telling.DEATH, Telling.LIST}) {
            for (int father = 0; father <= 1; father++) {
                lateFather(kind, father, NONE);
                lateFather(kind, father, 0);
            }
        }
    }

    private static void lateFather(int kind, int father, int age) {
        KinBench x = under(0, 0, father, 100, 0);
        KinBench y = under(0, 0, father, 100, 0);
        x.birth(1801, 0, 0, 0, 0);
        for (KinBench bench : new KinBench[] {x, y}) {
            if (kind == Telling.DEATH) {
                bench.death(1800, 0, 0, age);
            } else {
                bench.list(1800, 0, 0, age);
            }
        }
        y.birth(1801, 0, 0, 0, 0);
        String call = Telling.nameOf(kind) + " in 1800, age " + age + ", father in 1801 at " + father;
        due.is(call, x.link(2, 3), father == 1 ? OPEN : BARRED);
        due.is(call + ", after", y.link(0, 3), father == 1 ? OPEN : BARRED);
    }

    private static void noYearOfBirth() {
        due.says(15, "there is a year of birth b such that: bride, groom, WITNESS: y - LIFE to y - GROWN");
        int[] kinds = {Telling.WEDDING, Telling.ONE_WITNESS, Telling.TWO_WITNESSES};
        for (int kind : kinds) {
            for (int life = 39; life <= 41; life++) {
                KinBench x = under(40, 40, 40, life, 0);
                Telling.tell(x, kind, 1800, 0);
                due.is(Telling.nameOf(kind) + ", LIFE " + life, x.ways() > 0, life >= 40);
                due.is(Telling.nameOf(kind) + " quarrels, LIFE " + life, x.quarrel(), life >= 40 ? NONE : 1);
            }
        }
        KinBench y = under(40, 40, 40, 39, 0);
        y.list(1800, 0, 0, NONE);
        y.death(1800, 0, 0, 120);
        y.birth(1800, 0, 0, 0, 0);
        due.is("child or other, who is listed, need not be grown in a LIFE", y.ways(), 2);
    }

    private static void bornBeforeYears() {
        due.says(15, "there is a year of birth b (YEAR 0 .. 3000)");
        for (int kind = 0; kind < Telling.KINDS; kind++) {
            KinBench x = new KinBench();
            Telling.tell(x, kind, 0, 0);
            due.is(Telling.nameOf(kind) + " in year 0", x.ways(), 1);
        }
        KinBench y = under(14, 50, 70, 130, 20);
        y.wedding(0, 0, 0);
        y.list(0, 0, 0, 120);
        due.is("bride, born before year 0", y.link(0, 2), OPEN);
        due.is("groom, born before year 0", y.link(1, 2), OPEN);
        y.birth(0, 0, 0, 0, 0);
        due.is("child in year 0, not 120 then", y.link(2, 3), BARRED);
        due.is("mother, not 120 then", y.link(2, 4), BARRED);
        due.is("bride is mother", y.link(0, 4), OPEN);
    }

    private static void lastYears() {
        due.says(15, "there is a year of birth b (YEAR 0 .. 3000; of a LIST y - a - 1 - ROUND to y - a + ROUND)");
        KinBench x = under(14, 50, 70, 100, 20);
        for (int i = 0; i < 2; i++) {
            x.list(3000, 0, 0, 0);
        }
        due.is("two of 0 years in 3000", x.link(0, 1), OPEN);
        x.list(2961, 0, 0, 0);
        due.is("21 years either way", x.link(0, 2), OPEN);
        x.drop();
        x.list(2959, 0, 0, 0);
        due.is("20 and 21 years, as many as there are", x.link(0, 2), OPEN);
        x.drop();
        x.list(2958, 0, 0, 0);
        due.is("one year more", x.link(0, 2), BARRED);
    }

    private static void sexesAlike() {
        due.says(15, "for each PERSON its SEXES, as far as told, are alike");
        for (int a = 0; a <= 2; a++) {
            for (int b = 0; b <= 2; b++) {
                KinBench x = new KinBench();
                x.list(1800, a, 0, NONE);
                x.list(1800, b, 0, NONE);
                due.is("sexes " + a + " and " + b, x.link(0, 1), a + b == 3 && a != 0 && b != 0 ? BARRED : OPEN);
            }
        }
    }

    private static void sexesOfThree() {
        due.says(15, "for each PERSON its SEXES, as far as told, are alike");
        int[][] orders = {{1, 0, 2}, {2, 0, 1}, {0, 1, 2}, {1, 2, 0}, {1, 0, 1}, {0, 0, 2}};
        for (int[] sexes : orders) {
            KinBench x = new KinBench();
            for (int sex : sexes) {
                x.list(1800, sex, 0, NONE);
            }
            boolean both = (sexes[0] | sexes[1] | sexes[2]) == 3;
            due.is("ways of " + sexes[0] + ", " + sexes[1] + ", " + sexes[2], x.ways(), both ? 3 : 5);
        }
    }

    /** The first might be either of the others, who can't be one: so there are three ways, as in all that follow. */
    private static void yearsOfThree(int[] order) {
        due.says(15, "for each PERSON there is a year of birth b such that: (all its ROLES)");
        KinBench x = under(14, 50, 70, 100, 0);
        for (int i : order) {
            x.list(i == 0 ? 1800 : 1790, 0, 0, i == 0 ? NONE : i == 1 ? 10 : 11);
        }
        due.is("ages 10 and 11 have a year of birth in common", x.ways(), 5);
        KinBench y = under(14, 50, 70, 100, 0);
        for (int i : order) {
            y.list(i == 0 ? 1800 : 1790, 0, 0, i == 0 ? NONE : i == 1 ? 10 : 12);
        }
        due.is("ages 10 and 12 have none", y.ways(), 3);
    }

    private static void deathOfThree(int[] order) {
        due.says(15, "if it has a DEATH in year e: each other YEAR of its ROLES is at most e");
        for (int last = 1820; last <= 1821; last++) {
            KinBench x = new KinBench();
            for (int i : order) {
                if (i == 0) {
                    x.list(1800, 0, 0, NONE);
                } else if (i == 1) {
                    x.list(last, 0, 0, NONE);
                } else {
                    x.death(1820, 0, 0, NONE);
                }
            }
            due.is("dead in 1820, listed in 1800 and " + last, x.ways(), last == 1820 ? 5 : 3);
        }
    }

    private static void childrenOfThree(int[] order) {
        due.says(15, "it is at most one child");
        KinBench x = new KinBench();
        for (int i : order) {
            Telling.tell(x, i == 0 ? Telling.LIST : Telling.FOUND, 1800, 0);
        }
        due.is("one listed, two found", x.ways(), 3);
    }

    private static void deathsOfThree(int[] order) {
        due.says(15, "and in one DEATH at most");
        KinBench x = new KinBench();
        for (int i : order) {
            Telling.tell(x, i == 0 ? Telling.LIST : Telling.DEATH, 1800, 0);
        }
        due.is("one listed, two dead", x.ways(), 3);
    }

    private static void recordOfThree() {
        due.says(15, "the ROLES of one RECORD are of different PERSONS");
        KinBench x = new KinBench();
        x.list(1800, 0, 0, NONE);
        x.witness(1800, 0, 0, 0, 0);
        due.is("one listed, two witnesses", x.ways(), 3);
        KinBench y = new KinBench();
        y.witness(1800, 0, 0, 0, 0);
        y.list(1800, 0, 0, NONE);
        due.is("two witnesses, one listed", y.ways(), 3);
        KinBench z = new KinBench();
        z.witness(1800, 0, 0, 0, 0);
        z.witness(1800, 0, 0, 0, 0);
        due.is("two and two witnesses", z.ways(), 1 + 4 + 2);
    }

    private static void ofOneRecord() {
        due.says(15, "the ROLES of one RECORD are of different PERSONS");
        KinBench x = under(0, 80, 120, 130, 20);
        x.birth(1800, 0, 0, 0, 0);
        x.witness(1800, 0, 0, 0, 0);
        x.wedding(1800, 0, 0);
        int[][] pairs = {{0, 1}, {0, 2}, {1, 2}, {3, 4}, {5, 6}};
        for (int[] pair : pairs) {
            due.is("roles " + pair[0] + " and " + pair[1], x.link(pair[0], pair[1]), BARRED);
        }
        due.is("of two records", x.link(0, 3), OPEN);
    }

    private static void oneChild() {
        due.says(15, "it is at most one child (of BIRTHS and FOUNDS that are no COPIES)");
        for (int i = 0; i < 4; i++) {
            KinBench x = new KinBench();
            Telling.tell(x, i % 2, 1800, 0);
            int second = x.about(1);
            Telling.tell(x, i / 2, 1800, 0);
            due.is("two children", x.link(0, second), BARRED);
            x.copy(0, 0, 0, 0);
            int copied = x.about(1) - Telling.rolesOf(i % 2);
            due.is("a child and its copy", x.link(0, copied), SHOWN);
            due.is("another and the copy", x.link(second, copied), BARRED);
        }
    }

    private static void oneDeath() {
        due.says(15, "and in one DEATH at most (that is no COPY)");
        KinBench x = new KinBench();
        x.death(1800, 0, 0, NONE);
        x.death(1800, 0, 0, NONE);
        due.is("two deaths", x.link(0, 1), BARRED);
        x.copy(0, 0, 0, 0);
        due.is("a death and its copy", x.link(0, 2), SHOWN);
        due.is("another and the copy", x.link(1, 2), BARRED);
    }

    /** GROWN is 0, so that years of birth never bar what the death doesn't. */
    private static void yearsAfterDeath(int death, boolean first) {
        due.says(15, "if it has a DEATH in year e: each other YEAR of its ROLES is at most e (of a father at most e + 1)");
        for (int kind = 0; kind < Telling.KINDS; kind++) {
            if (kind != Telling.DEATH) {
                for (int role = 0; role < Telling.rolesOf(kind); role++) {
                    boolean father = kind == Telling.BIRTH && role == 2;
                    yearAfterDeath(death, kind, role, first, 0, OPEN);
                    yearAfterDeath(death, kind, role, first, 1, father ? OPEN : BARRED);
                    yearAfterDeath(death, kind, role, first, 2, BARRED);
                }
            }
        }
    }

    private static void yearAfterDeath(int death, int kind, int role, boolean first, int years, int want) {
        KinBench x = under(0, 80, 120, 130, 20);
        if (first) {
            x.death(death, 0, 0, NONE);
        }
        Telling.tell(x, kind, death + years, 0);
        if (!first) {
            x.death(death, 0, 0, NONE);
        }
        int dead = first ? 0 : Telling.rolesOf(kind);
        String call = Telling.nameOf(kind) + ", role " + role + ", " + years + " after the death in " + death;
        due.is(call, x.link(dead, first ? role + 1 : role), want);
    }

    private static void budgetJustSo() {
        due.says(15, "THE WAYS are those that are GOOD with a COST of at most BUDGET");
        KinBench x = new KinBench();
        x.list(1800, 0, ANN, NONE);
        x.list(1800, 0, HANS, NONE);
        x.budget(3, 1);
        due.is("joined, or not", x.ways(), 2);
        due.is("joined, at just so much", x.cost(0), 3);
        x.budget(2, 1);
        due.is("joined costs one more", x.ways(), 1);
        due.is("not joined, at just so much", x.cost(0), 2);
        x.budget(1, 1);
        due.is("not joined costs one more", x.ways(), 0);
        x.budget(0, 0);
        due.is("a BUDGET of 0", x.ways(), 1);
        due.is("costs 0", x.cost(0), 0);
    }

    /** Six of one sex in one year, whose names have no letter alike, and eight who can be nobody else. */
    private static void highestBudget() {
        due.says(15, "BUDGET (0 .. 300, 0 at first), PRICE (0 .. 20, 0 at first)");
        KinBench x = new KinBench();
        x.birth(1800, 2, 0, Due.name("ffffffff"), 0);
        x.birth(1000, 2, 0, 0, 0);
        x.birth(2600, 2, 0, 0, 0);
        String[] names = {"aaaaaaaa", "bbbbbbbb", "cccccccc", "dddddddd", "eeeeeeee"};
        for (String name : names) {
            x.list(1800, 1, Due.name(name), NONE);
        }
        x.budget(300, 20);
        due.is("all ways of six", x.ways(), 203);
        int way = x.first(1, 9, true);
        int best = way;
        for (int k = 0; k < 203; k++) {
            best = x.cost(k) > x.cost(best) ? k : best;
        }
        due.is("the dearest way", x.cost(best), 300);
        due.is("has one woman", x.person(best, 9) * 100 + x.person(best, 13), 101);
        x.budget(299, 20);
        due.is("one less", x.ways(), 202);
    }

    private static void prices() {
        due.says(17, "COST of a WAY: PRICE (0 .. 20, 0 at first) for each PERSON, and the sum of how FAR their NAMES are");
        for (int price = 0; price <= 20; price += 4) {
            KinBench x = new KinBench();
            x.budget(300, price);
            x.list(1800, 0, ANN, NONE);
            x.list(1800, 0, ANNA, NONE);
            x.list(1800, 0, HANS, NONE);
            due.is("three of one", x.cost(0), price + 1 + x.far(ANN, HANS) + x.far(ANNA, HANS));
            due.is("two persons", x.cost(1), 2 * price + 1);
            due.is("three persons", x.cost(4), 3 * price);
        }
    }

    private static void priceOfFourteen() {
        due.says(17, "COST of a WAY: PRICE (0 .. 20, 0 at first) for each PERSON (14 ROLES in all)");
        KinBench x = Telling.withRoles(14);
        x.budget(280, 20);
        due.is("ways", x.ways(), 1);
        due.is("cost", x.cost(0), 280);
        due.is("the last person", x.person(0, 13), 13);
        x.budget(279, 20);
        due.is("one less", x.ways(), 0);
    }

    private static void farNotTold() {
        due.says(17, "a NAME that is not told is 0 FAR from all");
        KinBench x = new KinBench();
        x.list(1800, 0, 0, NONE);
        x.list(1800, 0, Due.name("zzzzzzzz"), NONE);
        due.is("joined for nothing", x.ways(), 2);
        due.is("cost", x.cost(0), 0);
        x.list(1800, 0, Due.name("zzzzzzza"), NONE);
        due.is("two names are told", x.first(1, 2, true), NONE);
        x.budget(1, 0);
        due.is("all three for what two are apart", x.cost(0), 1);
    }

    private static void farOfCopies() {
        due.says(17, "over all pairs of ROLES of one PERSON, neither of a COPY");
        KinBench x = new KinBench();
        x.list(1800, 0, ANN, NONE);
        x.list(1800, 0, ANN, NONE);
        x.copy(0, Due.name("zzzzzzzz"), 0, 0);
        x.copy(0, HANS, 0, 0);
        due.is("a BUDGET of 0", x.ways(), 2);
        due.is("cost", x.cost(0), 0);
        x.budget(300, 20);
        due.is("a copy is no person more", x.cost(0), 20);
        due.is("nor where they differ", x.cost(1), 40);
    }

    private static void emptyWay() {
        due.says(15, "How many WAYS (No RECORDS.)");
        KinBench x = new KinBench();
        due.is("none are joined in one way", x.ways(), 1);
        x.budget(0, 20);
        due.is("which costs nothing", x.cost(0), 0);
        due.is("at any PRICE", x.ways(), 1);
        x.laws(40, 40, 40, 1, 0);
        due.is("under any LAWS", x.ways(), 1);
    }

    private static void mostWays() {
        due.says(15, "It is SPENT, if a 3,001st WAY would be needed: 3,000 are not too many");
        KinBench x = new KinBench();
        x.witness(1803, 0, JAN, 2, 0);
        x.witness(1820, 1, HANS, 2, 0);
        x.wedding(1808, ANN, 0);
        x.birth(1802, 1, ANN, 0, ANN);
        x.list(1806, 0, 0, NONE);
        x.budget(11, 1);
        due.is("ways", x.ways(), 3000);
        due.is("tries", x.about(3), 4415);
        due.is("the last way", x.person(2999, 0), 0);
        due.is("one more", x.person(3000, 0), NONE);
        due.is("the last cost", x.cost(2999) >= 0 && x.cost(2999) <= 11, true);
        due.is("one more", x.cost(3000), NONE);
        due.is("kin in the last", x.kin(2999, 0, 0), 0);
        due.is("kin in one more", x.kin(3000, 0, 0), NONE);
        due.is("link", x.link(0, 0), SHOWN);
        due.is("always", x.always(0, 0), 0);
        due.is("always, mother", x.always(6, 7), 100);
    }

    private static void tooManyWays() {
        due.says(15, "It is SPENT, if a 3,001st WAY would be needed: -2 if SPENT");
        KinBench x = new KinBench();
        x.wedding(1803, JAN, ANN);
        x.wedding(1801, ANN, ANNA);
        x.witness(1806, 2, ANNA, 2, ANNA);
        x.death(1805, 2, JAN, NONE);
        x.list(1808, 2, JAN, NONE);
        x.death(1804, 1, ANN, NONE);
        x.wedding(1802, ANNA, ANN);
        x.budget(16, 1);
        due.is("ways", x.ways(), -2);
        spentAnswers(x);
        x.budget(15, 1);
        due.is("fewer", x.ways() > 0 && x.ways() < 3000, true);
    }

    private static void mostTries() {
        due.says(15, "It is SPENT, if a 300,001st TRY would be needed: 300,000 are not too many");
        KinBench x = new KinBench();
        x.witness(1850, 2, ANNA, 2, ANNA);
        x.witness(1850, 2, ANNA, 1, ANN);
        x.witness(1850, 0, ANNA, 0, JAN);
        x.witness(1900, 0, HANS, 0, 0);
        x.witness(1850, 1, HANS, 0, ANNA);
        x.witness(1900, 0, ANNA, 2, HANS);
        x.wedding(2500, 0, 0);
        x.budget(9, 1);
        due.is("ways", x.ways(), 1628);
        due.is("tries", x.about(3), 300000);
        due.is("a person", x.person(1627, 0), 0);
        due.is("link", x.link(0, 0), SHOWN);
    }

    private static void tooManyTries() {
        due.says(15, "It is SPENT, if a 300,001st TRY would be needed: -2 if SPENT");
        KinBench x = new KinBench();
        x.witness(1850, 0, ANNA, 0, ANNA);
        x.witness(1900, 1, ANN, 0, ANN);
        x.witness(1850, 0, HANS, 1, HANS);
        x.witness(1900, 2, 0, 0, ANNA);
        x.witness(1850, 1, ANNA, 1, ANN);
        x.witness(1800, 2, ANN, 1, 0);
        x.wedding(2500, 0, 0);
        x.budget(18, 2);
        due.is("ways", x.ways(), -2);
        due.is("tries that were made", x.about(3), 300000);
        spentAnswers(x);
    }

    private static void triesOfACopy() {
        due.says(24, "each PERSON that is looked at for a ROLE is a TRY (of a COPY's ROLE its one PERSON alone is)");
        KinBench x = new KinBench();
        x.list(1800, 0, 0, NONE);
        int[] tries = {1, 2, 3, 4, 5, 6, 7, 8};
        for (int copies = 0; copies < 8; copies++) {
            due.is("one way", x.ways(), 1);
            due.is("tries with copies " + copies, x.about(3), tries[copies]);
            x.copy(0, 0, 0, 0);
        }
        KinBench y = new KinBench();
        y.list(1800, 0, 0, NONE);
        y.list(1800, 0, 0, NONE);
        y.copy(1, 0, 0, 0);
        due.is("two ways", y.ways(), 2);
        due.is("one and two, and one each", y.about(3), 1 + 2 + 2);
    }

    private static KinBench three() {
        KinBench x = new KinBench();
        x.list(1800, 1, 0, NONE);
        x.list(1800, 2, 0, NONE);
        x.list(1800, 0, 0, NONE);
        return x;
    }

    private static void personBounds() {
        due.says(16, "The PERSON of a ROLE in WAY k; NONE if there is none such");
        KinBench x = three();
        due.is("ways", x.ways(), 3);
        for (int wrong : new int[] {-1, 3, LEAST, MOST}) {
            for (int right = 0; right < 3; right++) {
                due.is("way " + wrong, x.person(wrong, right), NONE);
                due.is("role " + wrong, x.person(right, wrong), NONE);
            }
            due.is("neither", x.person(wrong, wrong), NONE);
        }
        int[] want = {0, 1, 0, 0, 1, 1, 0, 1, 2};
        for (int i = 0; i < 9; i++) {
            due.is("way " + i / 3 + ", role " + i % 3, x.person(i / 3, i % 3), want[i]);
        }
    }

    private static void costBounds() {
        due.says(17, "COST of WAY k; NONE likewise.");
        KinBench x = three();
        x.budget(9, 2);
        for (int wrong : new int[] {-1, 3, LEAST, MOST}) {
            due.is("way " + wrong, x.cost(wrong), NONE);
        }
        due.is("the first", x.cost(0), 4);
        due.is("the last", x.cost(2), 6);
    }

    private static void linkBounds() {
        due.says(18, "NONE if there is none such");
        KinBench x = three();
        for (int wrong : new int[] {-1, 3, 14, LEAST, MOST}) {
            for (int right = 0; right < 3; right++) {
                due.is("roles " + wrong + ", " + right, x.link(wrong, right), NONE);
                due.is("roles " + right + ", " + wrong, x.link(right, wrong), NONE);
            }
            due.is("roles " + wrong + ", itself", x.link(wrong, wrong), NONE);
        }
        due.is("the first and the last", x.link(0, 2), OPEN);
        due.is("the last and the first", x.link(2, 0), OPEN);
    }

    private static void linkWithoutWays() {
        due.says(18, "without WAYS it is none of these");
        KinBench x = three();
        x.budget(3, 2);
        due.is("ways", x.ways(), 0);
        for (int a = 0; a < 3; a++) {
            for (int b = 0; b < 3; b++) {
                due.is("link " + a + ", " + b, x.link(a, b), NONE);
            }
        }
    }

    private static void linkOfAll() {
        due.says(18, "SHOWN if all WAYS have it, BARRED if none has, OPEN else");
        KinBench x = three();
        for (int role = 0; role < 3; role++) {
            due.is("of one ROLE with itself", x.link(role, role), SHOWN);
        }
        due.is("none has it", x.link(0, 1), BARRED);
        due.is("one of three has it", x.link(1, 2), OPEN);
        x.budget(1, 0);
        x.list(1800, 0, Due.name("aaa"), NONE);
        x.drop();
        x.budget(4, 2);
        due.is("ways, all in two persons", x.ways(), 2);
        due.is("one of two has it", x.link(0, 2), OPEN);
        x.drop();
        due.is("the only way", x.ways(), 1);
        due.is("the only way has it not", x.link(0, 1), BARRED);
        KinBench y = new KinBench();
        y.list(1800, 0, 0, NONE);
        y.list(1800, 0, 0, NONE);
        y.budget(1, 1);
        due.is("the only way has it", y.link(0, 1), SHOWN);
    }

    private static void firstBounds() {
        due.says(19, "NONE likewise");
        KinBench x = three();
        for (int wrong : new int[] {-1, 3, 14, LEAST, MOST}) {
            for (int right = 0; right < 3; right++) {
                due.is("roles " + wrong + ", " + right, x.first(wrong, right, true), NONE);
                due.is("roles " + right + ", " + wrong, x.first(right, wrong, false), NONE);
            }
            due.is("yes, " + wrong, x.first(wrong, wrong, true), NONE);
            due.is("no, " + wrong, x.first(wrong, wrong, false), NONE);
        }
    }

    private static void firstEdges() {
        due.says(19, "The first WAY that has a LINK (yes), or has it not; NONE without one.");
        KinBench x = three();
        due.is("the first way of all", x.first(0, 2, true), 0);
        due.is("the last way but one", x.first(1, 2, true), 1);
        due.is("without one that has it", x.first(0, 1, true), NONE);
        due.is("that has it not", x.first(0, 1, false), 0);
        due.is("without one that has it not", x.first(2, 2, false), NONE);
        due.is("itself", x.first(2, 2, true), 0);
        KinBench y = new KinBench();
        y.list(1800, 0, 0, NONE);
        y.list(1800, 0, 0, NONE);
        due.is("the last way of all", y.first(0, 1, false), 1);
    }

    private static void whenNoWay() {
        due.says(15, "How many WAYS: 0; NONE if no WAY");
        KinBench x = three();
        x.budget(3, 2);
        due.is("ways", x.ways(), 0);
        due.is("person", x.person(0, 0), NONE);
        due.is("cost", x.cost(0), NONE);
        due.is("link", x.link(0, 0), NONE);
        due.is("first", x.first(0, 0, true), NONE);
        due.is("first not", x.first(0, 1, false), NONE);
        due.is("why", x.why(0, 0), NONE);
        due.is("quarrel", x.quarrel(), 3);
        due.is("kin", x.kin(0, 0, 0), NONE);
        due.is("always", x.always(0, 0), -3);
    }

    private static void whenSpent() {
        due.says(15, "-2 if SPENT (eight who may all be one)");
        KinBench x = new KinBench();
        for (int i = 0; i < 8; i++) {
            x.list(1800, 0, 0, NONE);
        }
        due.is("ways", x.ways(), -2);
        spentAnswers(x);
        x.drop();
        due.is("seven", x.ways(), 877);
        due.is("link of seven", x.link(0, 0), SHOWN);
    }

    private static void spentAnswers(KinBench x) {
        for (int k = -1; k <= 1; k++) {
            due.is("person, SPENT", x.person(k, 0), NONE);
            due.is("cost, SPENT", x.cost(k), NONE);
            due.is("kin, SPENT", x.kin(k, 0, 0), NONE);
        }
        due.is("link, SPENT", x.link(0, 1), NONE);
        due.is("link of itself, SPENT", x.link(0, 0), NONE);
        due.is("first, SPENT", x.first(0, 0, true), NONE);
        due.is("first not, SPENT", x.first(0, 1, false), NONE);
        due.is("why, SPENT", x.why(0, 0), NONE);
        due.is("quarrel, SPENT", x.quarrel(), NONE);
        due.is("always, SPENT", x.always(0, 0), -3);
        due.is("always with no role, SPENT", x.always(0, 14), -3);
    }
}
