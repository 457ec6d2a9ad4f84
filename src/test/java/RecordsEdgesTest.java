/** Promises 1 to 9 and 14 at their edges, sentence by sentence: what is taken last, and refused first. */
public final class RecordsEdgesTest {
    private static final Due due = new Due("RecordsEdgesTest");
    private static final int NONE = KinBench.NONE;
    private static final int LEAST = Integer.MIN_VALUE;
    private static final int MOST = Integer.MAX_VALUE;
    private static final long ANN = Due.name("ann");

    public static void main(String[] args) {
        noRecords();
        lastCall();
        for (int kind = 0; kind < Telling.KINDS; kind++) {
            numbersOfRecords(kind);
            numbersOfRoles(kind);
            years(kind);
            names(kind);
            namesKept(kind);
            if (kind != Telling.WEDDING) {
                sexes(kind);
            }
        }
        kindsOfRoles();
        secondWitness();
        oneWitness();
        ages(Telling.DEATH);
        ages(Telling.LIST);
        agesNotTold();
        copyOfARecord();
        copyOfACopy();
        copyNames();
        copyAmongRecords();
        copyAmongRoles();
        copyRoles();
        dropNone();
        dropAll();
        dropOfFull();
        dropOfACopy();
        roleBounds();
        whatBounds();
        due.end();
    }

    private static void noRecords() {
        due.says(1, "No RECORDS.");
        KinBench x = new KinBench();
        due.is("about(0)", x.about(0), 0);
        due.is("about(1)", x.about(1), 0);
        due.is("role(0, 0)", x.role(0, 0), NONE);
        due.is("copy(0)", x.copy(0, ANN, 0, 0), NONE);
        due.is("drop", x.drop(), false);
        due.is("about(3)", x.about(3), 0);
        due.is("ways, the one of no persons", x.ways(), 1);
        due.is("cost(0)", x.cost(0), 0);
        due.is("cost(1)", x.cost(1), NONE);
        due.is("person(0, 0)", x.person(0, 0), NONE);
        due.is("link(0, 0)", x.link(0, 0), NONE);
        due.is("first(0, 0, true)", x.first(0, 0, true), NONE);
        due.is("why(0, 0)", x.why(0, 0), NONE);
        due.is("quarrel", x.quarrel(), NONE);
        due.is("kin(0, 0, 0)", x.kin(0, 0, 0), NONE);
        due.is("always(0, 0)", x.always(0, 0), -3);
        due.is("about(3) after all", x.about(3), 0);
        due.is("the first record", x.found(1800, 0, 0), 0);
    }

    private static void lastCall() {
        due.says(1, "An object is used for at most 512 calls after it has been made");
        KinBench x = new KinBench();
        for (int i = 0; i < 255; i++) {
            due.is("found, call " + (2 * i + 1), x.found(1800, 0, 0), 0);
            due.is("drop, call " + (2 * i + 2), x.drop(), true);
        }
        due.is("found, call 511", x.found(1800, 0, 0), 0);
        due.is("ways, call 512", x.ways(), 1);
    }

    private static void numbersOfRecords(int kind) {
        due.says(Telling.promiseOf(kind), "RECORDS, 8 at most, are numbered from 0 on");
        String name = Telling.nameOf(kind);
        due.is(name + " as the first", Telling.tell(new KinBench(), kind, 1800, 0), 0);
        KinBench x = Telling.withRecords(7);
        due.is(name + " as the eighth", Telling.tell(x, kind, 1800, 0), 7);
        due.is("about(0)", x.about(0), 8);
        due.is("the last role's record", x.role(x.about(1) - 1, 0), 7);
        KinBench full = Telling.withRecords(8);
        due.is(name + " as the ninth", Telling.tell(full, kind, 1800, 0), NONE);
        Alike.check(due, "a ninth, " + name, full, Telling.withRecords(8));
    }

    private static void numbersOfRoles(int kind) {
        due.says(Telling.promiseOf(kind), "1 to 3 ROLES, 14 in all, numbered from 0 on as they come");
        String name = Telling.nameOf(kind);
        int more = Telling.rolesOf(kind);
        KinBench x = Telling.withRoles(14 - more);
        int number = x.about(0);
        due.is(name + " with 14 roles then", Telling.tell(x, kind, 2000, 0), number);
        due.is("about(1)", x.about(1), 14);
        due.is("the first of the record", x.role(14 - more, 0), number);
        due.is("the last of the one before", x.role(13 - more, 0), number - 1);
        due.is("the last of all", x.role(13, 0), number);
        KinBench full = Telling.withRoles(15 - more);
        due.is(name + " with 15 roles then", Telling.tell(full, kind, 2000, 0), NONE);
        Alike.check(due, "15 roles, " + name, full, Telling.withRoles(15 - more));
    }

    private static void years(int kind) {
        due.says(Telling.promiseOf(kind), "each has a YEAR (0 .. 3000)");
        String name = Telling.nameOf(kind);
        KinBench x = new KinBench();
        for (int year : new int[] {-1, 3001, LEAST, MOST}) {
            due.is(name + " in " + year, Telling.tell(x, kind, year, 1), NONE);
        }
        Alike.check(due, name + " in wrong years", x, new KinBench());
        KinBench y = new KinBench();
        due.is(name + " in 0", Telling.tell(y, kind, 0, 1), 0);
        due.is(name + " in 3000", Telling.tell(y, kind, 3000, 1), 1);
        due.is("the year 0", y.role(0, 1), 0);
        due.is("the year 3000", y.role(y.about(1) - 1, 1), 3000);
    }

    private static void sexes(int kind) {
        due.says(Telling.promiseOf(kind), "a SEX (0 not told, 1 she, 2 he)");
        String name = Telling.nameOf(kind);
        KinBench x = new KinBench();
        for (int sex : new int[] {-1, -2, 3, LEAST, MOST}) {
            due.is(name + " with sex " + sex, Telling.tell(x, kind, 1800, sex), NONE);
        }
        Alike.check(due, name + " with wrong sexes", x, new KinBench());
        KinBench y = new KinBench();
        for (int sex = 0; sex <= 2; sex++) {
            due.is(name + " with sex " + sex, Telling.tell(y, kind, 1800, sex), sex);
            due.is("the sex", y.role(sex * Telling.rolesOf(kind), 2), sex);
        }
    }

    private static void names(int kind) {
        due.says(Telling.promiseOf(kind), "a NAME (0 to 8 letters a .. z; none: not told)");
        for (int place = 0; place < Telling.rolesOf(kind); place++) {
            String name = Telling.nameOf(kind) + ", name " + place;
            KinBench x = new KinBench();
            for (long wrong : Due.noNames()) {
                due.is(name + " " + wrong, Telling.tellNamed(x, kind, place, wrong), NONE);
            }
            wrongSigns(x, kind, place, name);
            Alike.check(due, name + " wrong", x, new KinBench());
            KinBench y = new KinBench();
            for (String right : new String[] {"", "a", "z", "aaaaaaaa", "zzzzzzzz", "abcdefgh"}) {
                due.is(name + " " + right, Telling.tellNamed(y, kind, place, Due.name(right)), 0);
                due.is("drop", y.drop(), true);
            }
        }
    }

    /** Eight letters, of which one is no letter, or is left out behind others. */
    private static void wrongSigns(KinBench x, int kind, int place, String name) {
        due.says(Telling.promiseOf(kind), "NAMES are the bytes of a long, the highest first, 0s ahead left out");
        for (int at = 0; at < 8; at++) {
            for (long sign : new long[] {'`', '{', 'A', 0, 0xE1, 0xFF}) {
                long wrong = Due.name("aaaaaaaa") & ~(255L << (8 * at)) | sign << (8 * at);
                boolean fine = sign == 0 && at == 7;
                due.is(name + ", sign " + sign + " at " + at, Telling.tellNamed(x, kind, place, wrong), fine ? 0 : NONE);
                if (fine) {
                    due.is("drop", x.drop(), true);
                }
            }
        }
    }

    private static void namesKept(int kind) {
        due.says(Telling.promiseOf(kind), "a NAME (0 to 8 letters a .. z; none: not told)");
        for (int place = 0; place < Telling.rolesOf(kind); place++) {
            KinBench x = new KinBench();
            x.budget(300, 0);
            Telling.tellNamed(x, kind, place, Due.name("zzzzzzzz"));
            int last = x.about(1);
            String name = Telling.nameOf(kind) + ", name " + place;
            x.list(1800, 0, Due.name("yyyyyyyy"), NONE);
            due.is(name + " of 8 letters, all others", x.cost(x.first(place, last, true)), 8);
            x.drop();
            x.list(1800, 0, Due.name("zzzzzzzy"), NONE);
            due.is(name + " of 8 letters, another last", x.cost(x.first(place, last, true)), 1);
            x.drop();
            x.list(1800, 0, Due.name("zzzzzzzz"), NONE);
            due.is(name + " of 8 letters, the same", x.cost(x.first(place, last, true)), 0);
        }
    }

    private static void kindsOfRoles() {
        due.says(14, "4: 0 child, 1 mother, 2 father, 3 bride, 4 groom, 5 dead, 6 listed, 7 witness");
        int[][] want = {{0, 1, 2}, {0}, {3, 4}, {5}, {6}, {7}, {7, 7}};
        for (int kind = 0; kind < Telling.KINDS; kind++) {
            KinBench x = new KinBench();
            Telling.tell(x, kind, 1800, 0);
            due.is(Telling.nameOf(kind) + ", roles", x.about(1), want[kind].length);
            for (int role = 0; role < want[kind].length; role++) {
                due.is(Telling.nameOf(kind) + ", role " + role, x.role(role, 4), want[kind][role]);
            }
            due.is(Telling.nameOf(kind) + ", no role more", x.role(want[kind].length, 4), NONE);
        }
    }

    private static void secondWitness() {
        due.says(7, "A WITNESS RECORD, of one (second NONE as its SEX), or two");
        KinBench x = new KinBench();
        for (int second : new int[] {-2, 3, LEAST, MOST}) {
            due.is("second " + second, x.witness(1800, 0, ANN, second, ANN), NONE);
        }
        for (long wrong : Due.noNames()) {
            due.is("of two, other " + wrong, x.witness(1800, 0, ANN, 2, wrong), NONE);
        }
        Alike.check(due, "wrong seconds", x, new KinBench());
        KinBench y = new KinBench();
        for (int second = 0; second <= 2; second++) {
            due.is("second " + second, y.witness(1800, 1, ANN, second, ANN), second);
            due.is("two roles each", y.about(1), 2 * second + 2);
            due.is("its sex", y.role(2 * second + 1, 2), second);
        }
    }

    private static void oneWitness() {
        due.says(7, "A WITNESS RECORD, of one (second NONE as its SEX)");
        KinBench x = new KinBench();
        due.is("one", x.witness(1800, 2, ANN, NONE, 0), 0);
        due.is("one role", x.about(1), 1);
        due.is("its sex", x.role(0, 2), 2);
        due.is("no other", x.role(1, 2), NONE);
    }

    private static void ages(int kind) {
        due.says(Telling.promiseOf(kind), "perhaps an AGE (0 .. 120)");
        KinBench x = new KinBench();
        for (int age : new int[] {-2, 121, LEAST, MOST}) {
            due.is("age " + age, aged(x, kind, age), NONE);
        }
        Alike.check(due, "wrong ages", x, new KinBench());
        KinBench y = new KinBench();
        due.is("age 0", aged(y, kind, 0), 0);
        due.is("age 120", aged(y, kind, 120), 1);
        due.is("age not told", aged(y, kind, NONE), 2);
        due.is("the age 0", y.role(0, 3), 0);
        due.is("the age 120", y.role(1, 3), 120);
        due.is("no age", y.role(2, 3), NONE);
    }

    private static int aged(KinBench x, int kind, int age) {
        return kind == Telling.DEATH ? x.death(1800, 0, ANN, age) : x.list(1800, 0, ANN, age);
    }

    private static void agesNotTold() {
        due.says(14, "3: AGE (NONE)");
        for (int kind = 0; kind < Telling.KINDS; kind++) {
            KinBench x = new KinBench();
            Telling.tell(x, kind, 1800, 0);
            for (int role = 0; role < Telling.rolesOf(kind); role++) {
                due.is(Telling.nameOf(kind) + ", role " + role, x.role(role, 3), NONE);
            }
        }
    }

    private static void copyOfARecord() {
        due.says(8, "A COPY of a RECORD, with these NAMES: likewise");
        KinBench x = Telling.withRecords(3);
        for (int record : new int[] {-1, 3, 8, LEAST, MOST}) {
            due.is("of record " + record, x.copy(record, ANN, ANN, ANN), NONE);
        }
        Alike.check(due, "copies of none", x, Telling.withRecords(3));
        KinBench y = Telling.withRecords(3);
        due.is("of the last", y.copy(2, ANN, 0, 0), 3);
        due.is("of the first", y.copy(0, ANN, 0, 0), 4);
        due.is("the last again", y.role(3, 5), 2);
        due.is("the first again", y.role(4, 5), 0);
    }

    private static void copyOfACopy() {
        due.says(8, "COPY of a RECORD that is none");
        KinBench x = Telling.withRecords(2);
        KinBench y = Telling.withRecords(2);
        x.copy(1, 0, 0, 0);
        y.copy(1, 0, 0, 0);
        due.is("of a copy", x.copy(2, ANN, ANN, ANN), NONE);
        Alike.check(due, "a copy of a copy", x, y);
        due.is("of the record once more", x.copy(1, ANN, ANN, ANN), 3);
        due.is("of the second copy", x.copy(3, ANN, ANN, ANN), NONE);
        due.is("dropped both", x.drop() && x.drop(), true);
        due.is("a record in the copy's place", x.found(1900, 0, 0), 2);
        due.is("of this", x.copy(2, 0, 0, 0), 3);
    }

    private static void copyNames() {
        due.says(8, "with these NAMES (as many as it has ROLES)");
        int[] kinds = {Telling.FOUND, Telling.WEDDING, Telling.BIRTH};
        for (int size = 1; size <= 3; size++) {
            KinBench x = new KinBench();
            KinBench y = new KinBench();
            Telling.tell(x, kinds[size - 1], 1800, 1);
            Telling.tell(y, kinds[size - 1], 1800, 1);
            for (long wrong : Due.noNames()) {
                due.is("a of " + size, x.copy(0, wrong, ANN, ANN), NONE);
                if (size > 1) {
                    due.is("b of " + size, x.copy(0, ANN, wrong, ANN), NONE);
                }
                if (size > 2) {
                    due.is("c of " + size, x.copy(0, ANN, ANN, wrong), NONE);
                }
            }
            Alike.check(due, "a copy of " + size + " with wrong names", x, y);
            KinBench z = new KinBench();
            Telling.tell(z, kinds[size - 1], 1800, 1);
            long eight = Due.name("zzzzzzzz");
            due.is("8 letters, of " + size, z.copy(0, eight, size > 1 ? eight : 65, size > 2 ? eight : 65), 1);
            due.is("none, of " + size, z.copy(0, 0, 0, 0), 2);
        }
    }

    private static void copyAmongRecords() {
        due.says(8, "RECORDS, 8 at most, are numbered from 0 on");
        KinBench x = Telling.withRecords(7);
        due.is("as the eighth", x.copy(6, 0, 0, 0), 7);
        KinBench full = Telling.withRecords(8);
        due.is("as the ninth", full.copy(0, 0, 0, 0), NONE);
        Alike.check(due, "a ninth, a copy", full, Telling.withRecords(8));
    }

    private static void copyAmongRoles() {
        due.says(8, "1 to 3 ROLES, 14 in all");
        int[] kinds = {Telling.FOUND, Telling.WEDDING, Telling.BIRTH};
        for (int size = 1; size <= 3; size++) {
            due.is("14 roles then, " + size, withLast(14 - 2 * size, kinds[size - 1], true).about(1), 14);
            KinBench full = withLast(15 - 2 * size, kinds[size - 1], false);
            due.is("15 roles then, " + size, full.copy(full.about(0) - 1, 0, 0, 0), NONE);
            Alike.check(due, "15 roles, a copy", full, withLast(15 - 2 * size, kinds[size - 1], false));
        }
    }

    /** A bench of so many roles, and one record more, perhaps with its copy. */
    private static KinBench withLast(int roles, int kind, boolean copied) {
        KinBench x = Telling.withRoles(roles);
        Telling.tell(x, kind, 2250, 1);
        if (copied) {
            due.is("the copy's number", x.copy(x.about(0) - 1, 0, 0, 0), x.about(0) - 1);
        }
        return x;
    }

    private static void copyRoles() {
        due.says(8, "its ROLES again, each of the same person as there (YEAR, SEX, AGE as there)");
        for (int kind = 0; kind < Telling.KINDS; kind++) {
            for (int year = 0; year <= 3000; year += 3000) {
                KinBench x = new KinBench();
                Telling.tell(x, kind, year, 2);
                x.copy(0, ANN, ANN, ANN);
                int many = Telling.rolesOf(kind);
                due.is(Telling.nameOf(kind) + ", about(1)", x.about(1), 2 * many);
                for (int role = 0; role < many; role++) {
                    for (int what = 1; what <= 4; what++) {
                        due.is(Telling.nameOf(kind) + " " + role, x.role(many + role, what), x.role(role, what));
                    }
                    due.is("its record", x.role(many + role, 0), 1);
                    due.is("what it is a copy of", x.role(many + role, 5), role);
                    due.is("the other is none", x.role(role, 5), NONE);
                    due.is("of the same person", x.link(role, many + role), 1);
                }
            }
        }
        KinBench aged = new KinBench();
        aged.death(1800, 0, ANN, 120);
        aged.list(1700, 0, ANN, 0);
        aged.copy(0, ANN, 0, 0);
        aged.copy(1, ANN, 0, 0);
        due.is("the age 120", aged.role(2, 3), 120);
        due.is("the age 0", aged.role(3, 3), 0);
    }

    private static void dropNone() {
        due.says(9, "The latest RECORD is there no more: true; false if there is none.");
        KinBench x = new KinBench();
        due.is("drop", x.drop(), false);
        due.is("drop again", x.drop(), false);
        Alike.check(due, "drops of none", x, new KinBench());
        KinBench y = Telling.withRecords(1);
        due.is("drop of the only one", y.drop(), true);
        due.is("drop once more", y.drop(), false);
        due.is("no way is lost", y.ways(), 1);
        Alike.check(due, "a drop of the only one", y, new KinBench());
    }

    private static void dropAll() {
        due.says(9, "The latest RECORD is there no more");
        KinBench x = Telling.withRecords(8);
        for (int left = 7; left >= 0; left--) {
            due.is("drop, then " + left, x.drop(), true);
            due.is("about(0)", x.about(0), left);
            due.is("about(1)", x.about(1), left);
            due.is("its role", x.role(left, 0), NONE);
            due.is("the role before", x.role(left - 1, 0), left == 0 ? NONE : left - 1);
            due.is("ways", x.ways(), 1);
        }
        due.is("drop of none", x.drop(), false);
    }

    private static void dropOfFull() {
        due.says(9, "The latest RECORD is there no more");
        for (int kind = 0; kind < Telling.KINDS; kind++) {
            KinBench x = Telling.withRoles(14 - Telling.rolesOf(kind));
            int number = Telling.tell(x, kind, 2000, 0);
            due.is("full, " + Telling.nameOf(kind), x.found(2000, 0, 0), NONE);
            due.is("drop", x.drop(), true);
            due.is("there is room again", Telling.tell(x, kind, 2000, 0), number);
            due.is("full again", x.about(1), 14);
            x.drop();
            Alike.check(due, "a drop of " + Telling.nameOf(kind), x, Telling.withRoles(14 - Telling.rolesOf(kind)));
        }
    }

    private static void dropOfACopy() {
        due.says(9, "The latest RECORD is there no more");
        KinBench x = Telling.withRecords(2);
        x.copy(0, ANN, 0, 0);
        due.is("drop of a copy", x.drop(), true);
        due.is("what it was of", x.role(0, 5), NONE);
        due.is("its role", x.role(2, 5), NONE);
        due.is("a record in its place", x.list(1900, 0, 0, 3), 2);
        due.is("is no copy", x.role(2, 5), NONE);
        due.is("of its own year", x.role(2, 1), 1900);
        due.is("of its own age", x.role(2, 3), 3);
        due.is("of its own kind", x.role(2, 4), 6);
        due.is("of its own person", x.link(0, 2), 0);
    }

    private static void roleBounds() {
        due.says(14, "NONE if there is none such.");
        for (int roles = 11; roles <= 14; roles++) {
            KinBench x = Telling.withRoles(roles);
            for (int what = 0; what <= 5; what++) {
                due.is("role -1, what " + what, x.role(-1, what), NONE);
                due.is("role " + roles + ", what " + what, x.role(roles, what), NONE);
                due.is("role least, what " + what, x.role(LEAST, what), NONE);
                due.is("role most, what " + what, x.role(MOST, what), NONE);
            }
            due.is("the first role", x.role(0, 0), 0);
            due.is("the last role", x.role(roles - 1, 0), x.about(0) - 1);
        }
    }

    private static void whatBounds() {
        due.says(14, "Of a ROLE what 0: its RECORD, .. 5: the ROLE that it is a COPY of (NONE). NONE if there is none such.");
        KinBench x = Telling.withRecords(2);
        x.copy(1, 0, 0, 0);
        for (int what : new int[] {-1, 6, 7, 9, LEAST, MOST}) {
            due.is("what " + what, x.role(2, what), NONE);
        }
        due.is("what 0", x.role(2, 0), 2);
        due.is("what 1", x.role(2, 1), 1801);
        due.is("what 2", x.role(2, 2), 1);
        due.is("what 3", x.role(2, 3), NONE);
        due.is("what 4", x.role(2, 4), 0);
        due.is("what 5", x.role(2, 5), 1);
        due.is("no way was sought", x.about(3), 0);
    }
}
