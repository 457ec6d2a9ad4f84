import java.util.Arrays;

/** Joins the roles of old records into persons, in all ways that its laws and its budget allow. */
public final class KinBench {
    public static final int NONE = -1;

    private static final int SPENT = -2;
    private static final int DIFFERS = -2;
    private static final int UNSURE = -3;

    private static final int BARRED = 0;
    private static final int SHOWN = 1;
    private static final int OPEN = 2;

    private static final int SHE = 1;
    private static final int HE = 2;

    private static final int CHILD = 0;
    private static final int MOTHER = 1;
    private static final int FATHER = 2;
    private static final int BRIDE = 3;
    private static final int GROOM = 4;
    private static final int DEAD = 5;
    private static final int LISTED = 6;
    private static final int WITNESS = 7;

    private static final int MOST_RECORDS = 8;
    private static final int MOST_ROLES = 14;
    private static final int ROLES_OF_A_RECORD = 3;
    private static final int MOST_BIRTHS = MOST_ROLES / ROLES_OF_A_RECORD;
    private static final int MOST_SETS = 1 << MOST_RECORDS;
    private static final int MOST_LETTERS = 8;
    private static final int ALPHABET = 26;
    private static final int MOST_TRIES = 300000;
    private static final int MOST_WAYS = 3000;
    private static final int MOST_STEPS = 10;
    private static final int LAST_YEAR = 3000;
    private static final int MOST_AGE = 120;

    private final Archive archive;
    private final Rules rules;
    private final Ear ear;
    private final Table table;
    private final Seeker whole;
    private final Sets sets;
    private final Kinship kinship;
    private boolean sought;

    public KinBench() {
        archive = new Archive();
        rules = new Rules();
        ear = new Ear();
        table = new Table(archive, rules, ear);
        whole = new Seeker(archive, table, MOST_WAYS);
        sets = new Sets(archive, new Seeker(archive, table, 0));
        kinship = new Kinship(archive);
        sought = false;
    }

    public int birth(int year, int sex, long child, long mother, long father) {
        boolean fine = isYear(year) && isSex(sex)
                && Names.isName(child) && Names.isName(mother) && Names.isName(father);
        if (!fine || !archive.hasSpace(3)) {
            return NONE;
        }
        archive.open(year, NONE);
        archive.add(CHILD, sex, child, NONE);
        archive.add(MOTHER, SHE, mother, NONE);
        archive.add(FATHER, HE, father, NONE);
        return closeRecord();
    }

    public int found(int year, int sex, long child) {
        return single(CHILD, year, sex, child, NONE);
    }

    public int wedding(int year, long bride, long groom) {
        boolean fine = isYear(year) && Names.isName(bride) && Names.isName(groom);
        if (!fine || !archive.hasSpace(2)) {
            return NONE;
        }
        archive.open(year, NONE);
        archive.add(BRIDE, SHE, bride, NONE);
        archive.add(GROOM, HE, groom, NONE);
        return closeRecord();
    }

    public int death(int year, int sex, long name, int age) {
        return single(DEAD, year, sex, name, age);
    }

    public int list(int year, int sex, long name, int age) {
        return single(LISTED, year, sex, name, age);
    }

    public int witness(int year, int sex, long one, int second, long other) {
        if (second == NONE) {
            return single(WITNESS, year, sex, one, NONE);
        }
        boolean fine = isYear(year) && isSex(sex) && isSex(second)
                && Names.isName(one) && Names.isName(other);
        if (!fine || !archive.hasSpace(2)) {
            return NONE;
        }
        archive.open(year, NONE);
        archive.add(WITNESS, sex, one, NONE);
        archive.add(WITNESS, second, other, NONE);
        return closeRecord();
    }

    public int copy(int record, long a, long b, long c) {
        if (!archive.isOriginal(record)) {
            return NONE;
        }
        int size = archive.sizeOf(record);
        boolean fine = Names.isName(a) && (size < 2 || Names.isName(b)) && (size < 3 || Names.isName(c));
        if (!fine || !archive.hasSpace(size)) {
            return NONE;
        }
        archive.openCopy(record);
        for (int i = 0; i < size; i++) {
            archive.addAgain(archive.firstOf(record) + i, i == 0 ? a : i == 1 ? b : c);
        }
        return closeRecord();
    }

    public boolean drop() {
        if (archive.records == 0) {
            return false;
        }
        archive.removeLatest();
        sought = false;
        return true;
    }

    public boolean laws(int grown, int mother, int father, int life, int round) {
        if (!rules.setLaws(grown, mother, father, life, round)) {
            return false;
        }
        sought = false;
        return true;
    }

    public boolean sound(int a, int b, boolean is) {
        if (!Names.isLetter(a) || !Names.isLetter(b) || !Ear.canBe(a, b, is)) {
            return false;
        }
        ear.setAlike(a, b, is);
        sought = false;
        return true;
    }

    public boolean budget(int cost, int price) {
        if (!rules.setBudget(cost, price)) {
            return false;
        }
        sought = false;
        return true;
    }

    public int far(long a, long b) {
        return Names.isName(a) && Names.isName(b) ? ear.distance(a, b) : NONE;
    }

    public int role(int role, int what) {
        if (!archive.hasRole(role)) {
            return NONE;
        }
        switch (what) {
            case 0: return archive.recordOf[role];
            case 1: return archive.year[role];
            case 2: return archive.sex[role];
            case 3: return archive.age[role];
            case 4: return archive.kind[role];
            case 5: return archive.copyOf[role];
            default: return NONE;
        }
    }

    public int ways() {
        seekWays();
        return whole.spent ? SPENT : whole.found;
    }

    public int person(int k, int role) {
        if (!archive.hasRole(role) || !isWay(k)) {
            return NONE;
        }
        return personIn(whole.way(k), role);
    }

    public int cost(int k) {
        return isWay(k) ? whole.costOf(k) : NONE;
    }

    public int link(int a, int b) {
        if (!areRoles(a, b) || !haveWays()) {
            return NONE;
        }
        if (whole.joinsAlways(a, b)) {
            return SHOWN;
        }
        return whole.firstWay(a, b, true) == NONE ? BARRED : OPEN;
    }

    public int first(int a, int b, boolean yes) {
        if (!areRoles(a, b) || !haveWays()) {
            return NONE;
        }
        return whole.firstWay(a, b, yes);
    }

    public int why(int a, int b) {
        if (!areRoles(a, b) || !haveWays() || !whole.joinsAlways(a, b)) {
            return NONE;
        }
        return sets.leastProof(a, b);
    }

    public int quarrel() {
        seekWays();
        if (whole.spent || whole.found > 0) {
            return NONE;
        }
        return sets.leastQuarrel();
    }

    public int kin(int k, int a, int b) {
        if (!areRoles(a, b) || !isWay(k)) {
            return NONE;
        }
        return kinship.tell(whole.way(k), a, b);
    }

    public int always(int a, int b) {
        if (!areRoles(a, b) || !haveWays()) {
            return UNSURE;
        }
        int same = kinship.tell(whole.way(0), a, b);
        for (int k = 1; k < whole.found; k++) {
            if (kinship.tell(whole.way(k), a, b) != same) {
                return DIFFERS;
            }
        }
        return same;
    }

    public int about(int what) {
        switch (what) {
            case 0: return archive.records;
            case 1: return archive.roles;
            case 2: return rules.budget;
            case 3: return whole.tries;
            case 4: return rules.grown;
            case 5: return rules.mother;
            case 6: return rules.father;
            case 7: return rules.life;
            case 8: return rules.round;
            case 9: return rules.price;
            default: return NONE;
        }
    }

    private int single(int kind, int year, int sex, long name, int age) {
        boolean fine = isYear(year) && isSex(sex) && Names.isName(name) && (age == NONE || isAge(age));
        if (!fine || !archive.hasSpace(1)) {
            return NONE;
        }
        archive.open(year, NONE);
        archive.add(kind, sex, name, age);
        return closeRecord();
    }

    private int closeRecord() {
        sought = false;
        return archive.records - 1;
    }

    private void seekWays() {
        if (sought) {
            return;
        }
        table.prepare();
        kinship.prepare();
        sets.forget();
        whole.seek(archive.allRecords());
        sought = true;
    }

    private boolean haveWays() {
        seekWays();
        return !whole.spent && whole.found > 0;
    }

    private boolean isWay(int k) {
        seekWays();
        return !whole.spent && k >= 0 && k < whole.found;
    }

    private boolean areRoles(int a, int b) {
        return archive.hasRole(a) && archive.hasRole(b);
    }

    private static boolean isYear(int year) {
        return year >= 0 && year <= LAST_YEAR;
    }

    private static boolean isSex(int sex) {
        return sex >= 0 && sex <= HE;
    }

    private static boolean isAge(int age) {
        return age >= 0 && age <= MOST_AGE;
    }

    /** Whether a row that has a place for each role, or for each person, has this place. */
    private static boolean isPlace(int i) {
        return i >= 0 && i < MOST_ROLES;
    }

    /** A way is held as one number, four bits for the person of each role. */
    private static int personIn(long way, int role) {
        return (int) (way >>> (4 * role)) & 15;
    }

    /** Names as the bytes of a number; letters are counted from the last one on, which no distance minds. */
    private static final class Names {
        private Names() {
        }

        static boolean isLetter(int letter) {
            return letter >= 0 && letter < ALPHABET;
        }

        static boolean isName(long name) {
            int length = lengthOf(name);
            for (int i = 0; i < length; i++) {
                if (!isLetter(letterOf(name, i))) {
                    return false;
                }
            }
            return true;
        }

        static int lengthOf(long name) {
            int length = 0;
            for (int i = 0; i < MOST_LETTERS; i++) {
                if ((name >>> (8 * i)) != 0) {
                    length = i + 1;
                }
            }
            return length;
        }

        static int letterOf(long name, int i) {
            return (int) ((name >>> (8 * i)) & 255) - 'a';
        }
    }

    /** Which letters sound alike, and so how far two names are. */
    private static final class Ear {
        private static final int ROW = 32;
        private static final int ROW_MASK = ROW - 1;

        private final boolean[] alike = new boolean[ROW * ROW];
        private final int[] row = new int[MOST_LETTERS + 1];

        /** A letter sounds like itself always, so it can't be told not to. */
        static boolean canBe(int a, int b, boolean is) {
            return is || a != b;
        }

        void setAlike(int a, int b, boolean is) {
            alike[(a & ROW_MASK) * ROW + (b & ROW_MASK)] = is;
            alike[(b & ROW_MASK) * ROW + (a & ROW_MASK)] = is;
        }

        private boolean soundAlike(int a, int b) {
            return a == b || alike[(a & ROW_MASK) * ROW + (b & ROW_MASK)];
        }

        int distance(long a, long b) {
            int length = Names.lengthOf(a);
            int width = Math.min(Names.lengthOf(b), MOST_LETTERS);
            if (length == 0 || width == 0) {
                return 0;
            }
            for (int j = 0; j <= width; j++) {
                row[j] = j;
            }
            for (int i = 0; i < length; i++) {
                int corner = row[0];
                row[0] = i + 1;
                for (int j = 0; j < width; j++) {
                    boolean same = soundAlike(Names.letterOf(a, i), Names.letterOf(b, j));
                    int changed = same ? corner : corner + 1;
                    corner = row[j + 1];
                    row[j + 1] = Math.min(changed, Math.min(corner, row[j]) + 1);
                }
            }
            return row[width];
        }
    }

    /** The laws, the budget and the price of a person. */
    private static final class Rules {
        private int grown = 14;
        private int mother = 50;
        private int father = 70;
        private int life = 100;
        private int round = 2;
        private int budget = 0;
        private int price = 0;

        boolean setLaws(int newGrown, int newMother, int newFather, int newLife, int newRound) {
            boolean fine = newGrown >= 0 && newGrown <= 40
                    && newMother >= newGrown && newMother <= 80
                    && newFather >= newGrown && newFather <= 120
                    && newLife >= 1 && newLife <= 130
                    && newRound >= 0 && newRound <= 20;
            if (fine) {
                grown = newGrown;
                mother = newMother;
                father = newFather;
                life = newLife;
                round = newRound;
            }
            return fine;
        }

        boolean setBudget(int newBudget, int newPrice) {
            boolean fine = newBudget >= 0 && newBudget <= 300 && newPrice >= 0 && newPrice <= 20;
            if (fine) {
                budget = newBudget;
                price = newPrice;
            }
            return fine;
        }

        /** The earliest year of birth of one who has such a role. */
        int earliestBirth(int kind, int year, int age) {
            switch (kind) {
                case CHILD: return year;
                case MOTHER: return year - mother;
                case FATHER: return year - father;
                case DEAD: return age == NONE ? year - life : year - age - 1;
                case LISTED: return age == NONE ? year - life : year - age - 1 - round;
                default: return year - life;
            }
        }

        /** The latest year of birth of one who has such a role. */
        int latestBirth(int kind, int year, int age) {
            switch (kind) {
                case CHILD: return year;
                case DEAD: return age == NONE ? year : year - age;
                case LISTED: return age == NONE ? year : year - age + round;
                default: return year - grown;
            }
        }
    }

    /** The records and their roles. */
    private static final class Archive {
        private final int[] first = new int[MOST_RECORDS];
        private final int[] size = new int[MOST_RECORDS];
        private final int[] original = new int[MOST_RECORDS];
        private final int[] recordOf = new int[MOST_ROLES];
        private final int[] kind = new int[MOST_ROLES];
        private final int[] year = new int[MOST_ROLES];
        private final int[] sex = new int[MOST_ROLES];
        private final int[] age = new int[MOST_ROLES];
        private final int[] copyOf = new int[MOST_ROLES];
        private final long[] name = new long[MOST_ROLES];
        private int records = 0;
        private int roles = 0;
        private int openYear = 0;

        boolean hasRole(int role) {
            return role >= 0 && role < roles && role < MOST_ROLES;
        }

        boolean hasRecord(int number) {
            return number >= 0 && number < records && number < MOST_RECORDS;
        }

        boolean isOriginal(int number) {
            return hasRecord(number) && original[number] == NONE;
        }

        int sizeOf(int number) {
            return hasRecord(number) ? size[number] : 0;
        }

        int firstOf(int number) {
            return hasRecord(number) ? first[number] : NONE;
        }

        boolean hasSpace(int more) {
            return records < MOST_RECORDS && roles + more <= MOST_ROLES;
        }

        void open(int newYear, int newOriginal) {
            if (records < MOST_RECORDS) {
                first[records] = roles;
                size[records] = 0;
                original[records] = newOriginal;
                openYear = newYear;
                records++;
            }
        }

        void openCopy(int number) {
            int role = firstOf(number);
            open(hasRole(role) ? year[role] : 0, number);
        }

        void add(int newKind, int newSex, long newName, int newAge) {
            int last = records - 1;
            if (hasRecord(last) && roles >= 0 && roles < MOST_ROLES) {
                recordOf[roles] = last;
                kind[roles] = newKind;
                year[roles] = openYear;
                sex[roles] = newSex;
                age[roles] = newAge;
                name[roles] = newName;
                copyOf[roles] = NONE;
                size[last]++;
                roles++;
            }
        }

        void addAgain(int role, long newName) {
            if (hasRole(role) && roles < MOST_ROLES) {
                add(kind[role], sex[role], newName, age[role]);
                copyOf[roles - 1] = role;
            }
        }

        void removeLatest() {
            int last = records - 1;
            if (hasRecord(last)) {
                roles = first[last];
                records = last;
            }
        }

        int allRecords() {
            return (1 << records) - 1;
        }

        int bitOf(int role) {
            return hasRole(role) ? 1 << recordOf[role] : 0;
        }

        /** Whether a set of records has, with each copy, what it is of. */
        boolean holdsOriginals(int set) {
            for (int i = 0; i < records && i < MOST_RECORDS; i++) {
                boolean copied = (set >> i & 1) != 0 && original[i] != NONE;
                if (copied && (set >> original[i] & 1) == 0) {
                    return false;
                }
            }
            return true;
        }

        boolean isBirth(int number) {
            int role = firstOf(number);
            return isOriginal(number) && sizeOf(number) == 3 && hasRole(role) && kind[role] == CHILD;
        }
    }

    /** What each role asks of its person, worked out once for all seekings until something changes. */
    private static final class Table {
        private static final int CHILD_MARK = 1 << MOST_RECORDS;
        private static final int DEATH_MARK = CHILD_MARK << 1;
        private static final int SHE_MARK = CHILD_MARK << 2;
        private static final int HE_MARK = CHILD_MARK << 3;
        private static final int FAR_FUTURE = 1000000;

        private final Archive archive;
        private final Rules rules;
        private final Ear ear;
        private final int[] earliest = new int[MOST_ROLES];
        private final int[] latest = new int[MOST_ROLES];
        private final int[] marks = new int[MOST_ROLES];
        private final int[] clashes = new int[MOST_ROLES];
        private final int[] alive = new int[MOST_ROLES];
        private final int[] dead = new int[MOST_ROLES];
        private final int[] apart = new int[MOST_ROLES * MOST_ROLES];
        private int budget = 0;
        private int price = 0;

        Table(Archive archive, Rules rules, Ear ear) {
            this.archive = archive;
            this.rules = rules;
            this.ear = ear;
        }

        void prepare() {
            budget = rules.budget;
            price = rules.price;
            for (int role = 0; role < archive.roles && role < MOST_ROLES; role++) {
                prepareYears(role);
                prepareMarks(role);
                prepareDistances(role);
            }
        }

        private void prepareYears(int role) {
            int kind = archive.kind[role];
            int year = archive.year[role];
            earliest[role] = rules.earliestBirth(kind, year, archive.age[role]);
            latest[role] = rules.latestBirth(kind, year, archive.age[role]);
            alive[role] = kind == FATHER ? year - 1 : year;
            dead[role] = kind == DEAD ? year : FAR_FUTURE;
        }

        private void prepareMarks(int role) {
            int mark = archive.bitOf(role);
            int clash = mark;
            if (archive.kind[role] == CHILD) {
                mark |= CHILD_MARK;
                clash |= CHILD_MARK;
            }
            if (archive.kind[role] == DEAD) {
                mark |= DEATH_MARK;
                clash |= DEATH_MARK;
            }
            if (archive.sex[role] == SHE) {
                mark |= SHE_MARK;
                clash |= HE_MARK;
            }
            if (archive.sex[role] == HE) {
                mark |= HE_MARK;
                clash |= SHE_MARK;
            }
            marks[role] = mark;
            clashes[role] = clash;
        }

        private void prepareDistances(int role) {
            for (int other = 0; other < role; other++) {
                int distance = ear.distance(archive.name[role], archive.name[other]);
                apart[role * MOST_ROLES + other] = distance;
                apart[other * MOST_ROLES + role] = distance;
            }
        }
    }

    /** The persons of the way that is being sought; a copy's roles bind and cost nothing more, so they don't join. */
    private static final class People {
        private final Table table;
        private final int[] earliest = new int[MOST_ROLES];
        private final int[] latest = new int[MOST_ROLES];
        private final int[] marks = new int[MOST_ROLES];
        private final int[] alive = new int[MOST_ROLES];
        private final int[] dead = new int[MOST_ROLES];
        private final int[] size = new int[MOST_ROLES];
        private final int[] member = new int[MOST_ROLES * MOST_ROLES];
        private final int[] oldEarliest = new int[MOST_ROLES];
        private final int[] oldLatest = new int[MOST_ROLES];
        private final int[] oldMarks = new int[MOST_ROLES];
        private final int[] oldAlive = new int[MOST_ROLES];
        private final int[] oldDead = new int[MOST_ROLES];
        private int count = 0;

        People(Table table) {
            this.table = table;
        }

        /** Whether the laws let a role be a person's; the person after the last is a new one. */
        boolean admits(int person, int role) {
            if (!isPlace(person) || !isPlace(role)) {
                return false;
            }
            if (person >= count) {
                return table.earliest[role] <= table.latest[role];
            }
            return (marks[person] & table.clashes[role]) == 0
                    && Math.max(earliest[person], table.earliest[role])
                            <= Math.min(latest[person], table.latest[role])
                    && Math.max(alive[person], table.alive[role])
                            <= Math.min(dead[person], table.dead[role]);
        }

        /** What it costs if a role becomes a person's. */
        int added(int person, int role) {
            if (!isPlace(person) || !isPlace(role)) {
                return 0;
            }
            if (person >= count) {
                return table.price;
            }
            int sum = 0;
            for (int i = 0; i < size[person] && i < MOST_ROLES; i++) {
                sum += table.apart[role * MOST_ROLES + member[person * MOST_ROLES + i]];
            }
            return sum;
        }

        void join(int person, int role) {
            if (!isPlace(person) || !isPlace(role)) {
                return;
            }
            if (person >= count) {
                start(person, role);
                return;
            }
            if (size[person] < MOST_ROLES) {
                keepOld(person, role);
                earliest[person] = Math.max(earliest[person], table.earliest[role]);
                latest[person] = Math.min(latest[person], table.latest[role]);
                marks[person] |= table.marks[role];
                alive[person] = Math.max(alive[person], table.alive[role]);
                dead[person] = Math.min(dead[person], table.dead[role]);
                member[person * MOST_ROLES + size[person]] = role;
                size[person]++;
            }
        }

        private void start(int person, int role) {
            earliest[person] = table.earliest[role];
            latest[person] = table.latest[role];
            marks[person] = table.marks[role];
            alive[person] = table.alive[role];
            dead[person] = table.dead[role];
            member[person * MOST_ROLES] = role;
            size[person] = 1;
            count = person + 1;
        }

        private void keepOld(int person, int role) {
            oldEarliest[role] = earliest[person];
            oldLatest[role] = latest[person];
            oldMarks[role] = marks[person];
            oldAlive[role] = alive[person];
            oldDead[role] = dead[person];
        }

        /** Takes back the latest join of the person, which was this role's. */
        void leave(int person, int role) {
            if (!isPlace(person) || !isPlace(role) || person >= count) {
                return;
            }
            if (size[person] <= 1) {
                count = person;
                return;
            }
            earliest[person] = oldEarliest[role];
            latest[person] = oldLatest[role];
            marks[person] = oldMarks[role];
            alive[person] = oldAlive[role];
            dead[person] = oldDead[role];
            size[person]--;
        }
    }

    /** Seeks the ways of a set of records, role by role, and keeps as many as it has room for. */
    private static final class Seeker {
        private final Archive archive;
        private final Table table;
        private final People people;
        private final int[] order = new int[MOST_ROLES];
        private final int[] personOf = new int[MOST_ROLES];
        private final int[] joined = new int[MOST_ROLES];
        private final int[] rolesOf = new int[MOST_ROLES];
        private final long[] ways;
        private final int[] costs;
        private int count = 0;
        private int cost = 0;
        private int tries = 0;
        private int found = 0;
        private boolean spent = false;

        Seeker(Archive archive, Table table, int room) {
            int size = Math.max(0, Math.min(room, MOST_WAYS));
            this.archive = archive;
            this.table = table;
            people = new People(table);
            ways = new long[size];
            costs = new int[size];
        }

        void seek(int set) {
            count = 0;
            for (int role = 0; role < archive.roles && role < MOST_ROLES; role++) {
                if ((set & archive.bitOf(role)) != 0) {
                    order[count] = role;
                    count++;
                }
            }
            Arrays.fill(joined, (1 << MOST_ROLES) - 1);
            people.count = 0;
            cost = 0;
            tries = 0;
            found = 0;
            spent = false;
            place(this, 0);
        }

        private static void place(Seeker seeker, int depth) {
            if (depth >= seeker.count || depth >= MOST_ROLES) {
                seeker.keep();
                return;
            }
            int role = seeker.order[depth];
            if (!isPlace(role)) {
                return;
            }
            int source = seeker.archive.copyOf[role];
            if (isPlace(source)) {
                if (seeker.mayTry()) {
                    seeker.personOf[role] = seeker.personOf[source];
                    place(seeker, depth + 1);
                }
                return;
            }
            int last = Math.min(seeker.people.count, MOST_ROLES - 1);
            for (int person = 0; person <= last && seeker.mayTry(); person++) {
                int added = seeker.people.admits(person, role) ? seeker.people.added(person, role) : NONE;
                if (added != NONE && seeker.cost + added <= seeker.table.budget) {
                    seeker.people.join(person, role);
                    seeker.personOf[role] = person;
                    seeker.cost += added;
                    place(seeker, depth + 1);
                    seeker.cost -= added;
                    seeker.people.leave(person, role);
                }
            }
        }

        private boolean mayTry() {
            if (!spent && tries >= MOST_TRIES) {
                spent = true;
            }
            if (spent) {
                return false;
            }
            tries++;
            return true;
        }

        private void keep() {
            if (found >= MOST_WAYS) {
                spent = true;
                return;
            }
            if (found < ways.length && found < costs.length) {
                ways[found] = packed();
                costs[found] = cost;
            }
            found++;
            narrowJoined();
        }

        private long packed() {
            long way = 0;
            for (int i = 0; i < count && i < MOST_ROLES; i++) {
                int role = order[i];
                if (isPlace(role)) {
                    way |= (long) personOf[role] << (4 * role);
                }
            }
            return way;
        }

        /** Keeps of the links that all ways had so far those that this way has too. */
        private void narrowJoined() {
            Arrays.fill(rolesOf, 0);
            for (int i = 0; i < count && i < MOST_ROLES; i++) {
                int role = order[i];
                if (isPlace(role) && isPlace(personOf[role])) {
                    rolesOf[personOf[role]] |= 1 << role;
                }
            }
            for (int i = 0; i < count && i < MOST_ROLES; i++) {
                int role = order[i];
                if (isPlace(role) && isPlace(personOf[role])) {
                    joined[role] &= rolesOf[personOf[role]];
                }
            }
        }

        long way(int k) {
            return k >= 0 && k < found && k < ways.length ? ways[k] : 0;
        }

        int costOf(int k) {
            return k >= 0 && k < found && k < costs.length ? costs[k] : NONE;
        }

        boolean joinsAlways(int a, int b) {
            return archive.hasRole(a) && archive.hasRole(b) && (joined[a] >> b & 1) != 0;
        }

        int firstWay(int a, int b, boolean yes) {
            for (int k = 0; k < found && k < ways.length; k++) {
                if ((personIn(ways[k], a) == personIn(ways[k], b)) == yes) {
                    return k;
                }
            }
            return NONE;
        }
    }

    /** What is known of the sets of records, each sought but once until something changes. */
    private static final class Sets {
        private static final int UNKNOWN = 0;
        private static final int QUARRELS = 1;
        private static final int STANDS = 2;
        private static final int TOO_MUCH = 3;

        private final Archive archive;
        private final Seeker seeker;
        private final int[] state = new int[MOST_SETS];
        private final int[] joined = new int[MOST_SETS * MOST_ROLES];

        Sets(Archive archive, Seeker seeker) {
            this.archive = archive;
            this.seeker = seeker;
        }

        void forget() {
            Arrays.fill(state, UNKNOWN);
        }

        /** All records together are known to quarrel when this is asked. */
        int leastQuarrel() {
            int all = archive.allRecords();
            for (int many = 1; many < archive.records; many++) {
                for (int set = 1; set < all; set++) {
                    if (isLookedAt(set, many, 0)) {
                        int is = lookAt(set);
                        if (is == QUARRELS || is == TOO_MUCH) {
                            return is == QUARRELS ? set : NONE;
                        }
                    }
                }
            }
            return all;
        }

        /** From all records together the link is known to follow when this is asked. */
        int leastProof(int a, int b) {
            int need = archive.bitOf(a) | archive.bitOf(b);
            int all = archive.allRecords();
            for (int many = 1; many < archive.records; many++) {
                for (int set = 1; set < all; set++) {
                    if (isLookedAt(set, many, need)) {
                        int is = lookAt(set);
                        if (is == TOO_MUCH) {
                            return NONE;
                        }
                        if (is == STANDS && joins(set, a, b)) {
                            return set;
                        }
                    }
                }
            }
            return all;
        }

        private boolean isLookedAt(int set, int many, int need) {
            return Integer.bitCount(set) == many && (set & need) == need && archive.holdsOriginals(set);
        }

        private boolean joins(int set, int a, int b) {
            boolean inside = set >= 0 && set < MOST_SETS && archive.hasRole(a) && archive.hasRole(b);
            return inside && (joined[set * MOST_ROLES + a] >> b & 1) != 0;
        }

        private int lookAt(int set) {
            if (set < 0 || set >= MOST_SETS) {
                return TOO_MUCH;
            }
            if (state[set] == UNKNOWN) {
                seeker.seek(set);
                System.arraycopy(seeker.joined, 0, joined, set * MOST_ROLES, MOST_ROLES);
                state[set] = seeker.spent ? TOO_MUCH : seeker.found == 0 ? QUARRELS : STANDS;
            }
            return state[set];
        }
    }

    /** What one person is to another, by the births alone. */
    private static final class Kinship {
        private final Archive archive;
        private final int[] child = new int[MOST_BIRTHS];
        private final int[] up = new int[MOST_STEPS + 1];
        private final int[] back = new int[MOST_STEPS + 1];
        private int births = 0;

        Kinship(Archive archive) {
            this.archive = archive;
        }

        void prepare() {
            births = 0;
            for (int number = 0; number < archive.records && births < MOST_BIRTHS; number++) {
                if (archive.isBirth(number)) {
                    child[births] = archive.firstOf(number);
                    births++;
                }
            }
        }

        /** What the person of role b is to that of role a. */
        int tell(long way, int a, int b) {
            climb(way, personIn(way, a), up);
            climb(way, personIn(way, b), back);
            for (int sum = 0; sum <= 2 * MOST_STEPS; sum++) {
                int least = Math.max(0, sum - MOST_STEPS);
                for (int u = least; u <= sum && u <= MOST_STEPS; u++) {
                    if ((up[u] & back[sum - u]) != 0) {
                        return 100 * u + sum - u;
                    }
                }
            }
            return NONE;
        }

        /** Fills in, as bits, who is reached by just so many steps up. */
        private void climb(long way, int person, int[] steps) {
            int persons = 1 << person;
            for (int i = 0; i < steps.length; i++) {
                steps[i] = persons;
                persons = parentsOf(way, persons);
            }
        }

        private int parentsOf(long way, int persons) {
            int parents = 0;
            for (int i = 0; i < births && i < MOST_BIRTHS && persons != 0; i++) {
                if ((persons >> personIn(way, child[i]) & 1) != 0) {
                    parents |= 1 << personIn(way, child[i] + 1) | 1 << personIn(way, child[i] + 2);
                }
            }
            return parents;
        }
    }
}
