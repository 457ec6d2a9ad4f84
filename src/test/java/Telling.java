/** Records of all kinds, told alike: what the tests of edges lay out. */
final class Telling {
    static final int KINDS = 7;
    static final int BIRTH = 0;
    static final int FOUND = 1;
    static final int WEDDING = 2;
    static final int DEATH = 3;
    static final int LIST = 4;
    static final int ONE_WITNESS = 5;
    static final int TWO_WITNESSES = 6;

    private static final String[] NAMES = {"birth", "found", "wedding", "death", "list", "witness", "two witnesses"};
    private static final int[] PROMISES = {2, 3, 4, 5, 6, 7, 7};
    private static final int[] ROLES = {3, 1, 2, 1, 1, 1, 2};

    private Telling() {
    }

    static String nameOf(int kind) {
        return NAMES[kind];
    }

    static int promiseOf(int kind) {
        return PROMISES[kind];
    }

    static int rolesOf(int kind) {
        return ROLES[kind];
    }

    static int tell(KinBench x, int kind, int year, int sex) {
        return tell(x, kind, year, sex, 0, 0, 0);
    }

    static int tell(KinBench x, int kind, int year, int sex, long a, long b, long c) {
        switch (kind) {
            case BIRTH: return x.birth(year, sex, a, b, c);
            case FOUND: return x.found(year, sex, a);
            case WEDDING: return x.wedding(year, a, b);
            case DEATH: return x.death(year, sex, a, KinBench.NONE);
            case LIST: return x.list(year, sex, a, KinBench.NONE);
            case ONE_WITNESS: return x.witness(year, sex, a, KinBench.NONE, 0);
            default: return x.witness(year, sex, a, 0, b);
        }
    }

    /** A record of which the role at one place alone has a name. */
    static int tellNamed(KinBench x, int kind, int place, long name) {
        return tell(x, kind, 1800, 0, place == 0 ? name : 0, place == 1 ? name : 0, place == 2 ? name : 0);
    }

    /** A bench of so many roles, 11 at least, in few records; they are centuries apart, so there is one way. */
    static KinBench withRoles(int roles) {
        KinBench x = new KinBench();
        for (int i = 0; i < roles / 3; i++) {
            x.birth(500 * i, 1, 0, 0, 0);
        }
        if (roles % 3 == 1) {
            x.found(2500, 1, 0);
        }
        if (roles % 3 == 2) {
            x.wedding(2500, 0, 0);
        }
        return x;
    }

    /** A bench of so many records of one role each, who are all children and so can't be joined. */
    static KinBench withRecords(int records) {
        KinBench x = new KinBench();
        for (int i = 0; i < records; i++) {
            x.found(1800 + i, 1, Due.name("ann"));
        }
        return x;
    }
}
