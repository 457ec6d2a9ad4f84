import java.util.ArrayList;
import java.util.HashMap;
import java.util.List;
import java.util.Map;

/** The document once more, in its slowest words, to hold KinBench against. */
final class PlainBench {
    static final int CHILD = 0, MOTHER = 1, FATHER = 2, BRIDE = 3, GROOM = 4, DEAD = 5, LISTED = 6, WITNESS = 7;

    record Role(int rec, int kind, int year, int sex, String name, int age, int copyOf) { }

    static final class Ways {
        final List<int[]> all = new ArrayList<>();
        final List<Integer> costs = new ArrayList<>();
        int tries = 0;
        boolean spent = false;
    }

    final List<Role> roles = new ArrayList<>();
    final List<Integer> firsts = new ArrayList<>();
    final List<Integer> sources = new ArrayList<>();
    int grown = 14, mother = 50, father = 70, life = 100, round = 2, budget = 0, price = 0;
    final boolean[][] alike = new boolean[26][26];
    private final Map<Integer, Ways> known = new HashMap<>();
    private int tries = 0;
    private boolean sought = false;

    void changed() {
        known.clear();
        sought = false;
    }

    static boolean nameFine(String n) {
        return n != null && n.length() <= 8 && n.matches("[a-z]*");
    }

    private int add(int year, int source, Role... more) {
        boolean fine = year >= 0 && year <= 3000 && firsts.size() < 8 && roles.size() + more.length <= 14;
        for (Role r : more) {
            fine &= r.sex >= 0 && r.sex <= 2 && nameFine(r.name) && r.age >= -1 && r.age <= 120;
        }
        if (!fine) {
            return -1;
        }
        firsts.add(roles.size());
        sources.add(source);
        roles.addAll(List.of(more));
        changed();
        return firsts.size() - 1;
    }

    private Role role(int kind, int year, int sex, String name, int age) {
        return new Role(firsts.size(), kind, year, sex, name, age, -1);
    }

    int birth(int y, int sex, String c, String m, String f) {
        return add(y, -1, role(CHILD, y, sex, c, -1), role(MOTHER, y, 1, m, -1), role(FATHER, y, 2, f, -1));
    }

    int found(int y, int sex, String c) {
        return add(y, -1, role(CHILD, y, sex, c, -1));
    }

    int wedding(int y, String b, String g) {
        return add(y, -1, role(BRIDE, y, 1, b, -1), role(GROOM, y, 2, g, -1));
    }

    int death(int y, int sex, String n, int age) {
        return add(y, -1, role(DEAD, y, sex, n, age));
    }

    int list(int y, int sex, String n, int age) {
        return add(y, -1, role(LISTED, y, sex, n, age));
    }

    int witness(int y, int sex, String one, int second, String other) {
        return second == -1 ? add(y, -1, role(WITNESS, y, sex, one, -1))
                : add(y, -1, role(WITNESS, y, sex, one, -1), role(WITNESS, y, second, other, -1));
    }

    int sizeOf(int rec) {
        return (rec + 1 < firsts.size() ? firsts.get(rec + 1) : roles.size()) - firsts.get(rec);
    }

    int copy(int rec, String... names) {
        if (rec < 0 || rec >= firsts.size() || sources.get(rec) != -1) {
            return -1;
        }
        Role[] more = new Role[sizeOf(rec)];
        for (int i = 0; i < more.length; i++) {
            Role r = roles.get(firsts.get(rec) + i);
            more[i] = new Role(firsts.size(), r.kind, r.year, r.sex, names[i], r.age, firsts.get(rec) + i);
        }
        return add(more[0].year, rec, more);
    }

    boolean drop() {
        if (firsts.isEmpty()) {
            return false;
        }
        int first = firsts.remove(firsts.size() - 1);
        sources.remove(sources.size() - 1);
        while (roles.size() > first) {
            roles.remove(roles.size() - 1);
        }
        changed();
        return true;
    }

    boolean laws(int g, int m, int f, int l, int r) {
        if (g < 0 || g > 40 || m < g || m > 80 || f < g || f > 120 || l < 1 || l > 130 || r < 0 || r > 20) {
            return false;
        }
        grown = g;
        mother = m;
        father = f;
        life = l;
        round = r;
        changed();
        return true;
    }

    boolean sound(int a, int b, boolean is) {
        if (a < 0 || a > 25 || b < 0 || b > 25 || a == b && !is) {
            return false;
        }
        alike[a][b] = is;
        alike[b][a] = is;
        changed();
        return true;
    }

    boolean budget(int c, int p) {
        if (c < 0 || c > 300 || p < 0 || p > 20) {
            return false;
        }
        budget = c;
        price = p;
        changed();
        return true;
    }

    int far(String a, String b) {
        return a.isEmpty() || b.isEmpty() ? 0 : edits(a, b, new HashMap<>());
    }

    private int edits(String a, String b, Map<String, Integer> seen) {
        if (a.isEmpty() || b.isEmpty()) {
            return a.length() + b.length();
        }
        String key = a + "/" + b;
        Integer old = seen.get(key);
        if (old != null) {
            return old;
        }
        char x = a.charAt(0);
        char y = b.charAt(0);
        int keep = x == y || alike[x - 'a'][y - 'a'] ? 0 : 1;
        int best = keep + edits(a.substring(1), b.substring(1), seen);
        best = Math.min(best, 1 + edits(a.substring(1), b, seen));
        best = Math.min(best, 1 + edits(a, b.substring(1), seen));
        seen.put(key, best);
        return best;
    }

    /** The years of birth that a role allows. */
    private boolean bornFits(Role r, int b) {
        int y = r.year;
        switch (r.kind) {
            case CHILD: return b == y;
            case MOTHER: return b >= y - mother && b <= y - grown;
            case FATHER: return b >= y - father && b <= y - grown;
            case BRIDE: case GROOM: case WITNESS: return b >= y - life && b <= y - grown;
            case DEAD:
                return r.age == -1 ? b >= y - life && b <= y : b >= y - r.age - 1 && b <= y - r.age;
            default:
                return r.age == -1 ? b >= y - life && b <= y
                        : b >= y - r.age - 1 - round && b <= y - r.age + round;
        }
    }

    boolean personGood(List<Role> own) {
        boolean she = false;
        boolean he = false;
        int children = 0;
        Role dead = null;
        int deaths = 0;
        for (Role r : own) {
            she |= r.sex == 1;
            he |= r.sex == 2;
            if (r.kind == CHILD && r.copyOf == -1) {
                children++;
            }
            if (r.kind == DEAD && r.copyOf == -1) {
                deaths++;
                dead = r;
            }
            for (Role other : own) {
                if (other != r && other.rec == r.rec) {
                    return false;
                }
            }
        }
        if (she && he || children > 1 || deaths > 1) {
            return false;
        }
        if (dead != null) {
            for (Role r : own) {
                if (r != dead && r.year > dead.year + (r.kind == FATHER ? 1 : 0)) {
                    return false;
                }
            }
        }
        int y = own.get(0).year;
        for (int b = y - 160; b <= y + 30; b++) {
            boolean all = true;
            for (Role r : own) {
                all &= bornFits(r, b);
            }
            if (all) {
                return true;
            }
        }
        return false;
    }

    int costOf(int[] who, List<Role> placed, int persons) {
        int sum = price * persons;
        for (int i = 0; i < placed.size(); i++) {
            for (int j = 0; j < i; j++) {
                if (who[i] == who[j] && placed.get(i).copyOf == -1 && placed.get(j).copyOf == -1) {
                    sum += far(placed.get(i).name, placed.get(j).name);
                }
            }
        }
        return sum;
    }

    Ways waysOf(int set) {
        Ways old = known.get(set);
        if (old != null) {
            return old;
        }
        List<Role> mine = new ArrayList<>();
        List<Integer> numbers = new ArrayList<>();
        for (int i = 0; i < roles.size(); i++) {
            if ((set >> roles.get(i).rec & 1) != 0) {
                mine.add(roles.get(i));
                numbers.add(i);
            }
        }
        Ways w = new Ways();
        seek(w, mine, numbers, new int[14], 0, 0);
        known.put(set, w);
        return w;
    }

    private void seek(Ways w, List<Role> mine, List<Integer> numbers, int[] who, int at, int persons) {
        if (at == mine.size()) {
            if (w.all.size() == 3000) {
                w.spent = true;
                return;
            }
            int[] way = new int[14];
            java.util.Arrays.fill(way, -1);
            for (int i = 0; i < at; i++) {
                way[numbers.get(i)] = who[i];
            }
            w.all.add(way);
            w.costs.add(costOf(who, mine, persons));
            return;
        }
        Role r = mine.get(at);
        int from = 0;
        int to = persons;
        if (r.copyOf != -1) {
            from = who[numbers.indexOf(r.copyOf)];
            to = from;
        }
        for (int p = from; p <= to && !w.spent; p++) {
            if (w.tries == 300000) {
                w.spent = true;
                return;
            }
            w.tries++;
            who[at] = p;
            List<Role> own = new ArrayList<>();
            for (int i = 0; i <= at; i++) {
                if (who[i] == p) {
                    own.add(mine.get(i));
                }
            }
            int now = Math.max(persons, p + 1);
            if (personGood(own) && costOf(who, mine.subList(0, at + 1), now) <= budget) {
                seek(w, mine, numbers, who, at + 1, now);
            }
        }
    }

    int all() {
        return (1 << firsts.size()) - 1;
    }

    Ways theWays() {
        Ways w = waysOf(all());
        if (!sought) {
            tries = w.tries;
            sought = true;
        }
        return w;
    }

    boolean isRole(int r) {
        return r >= 0 && r < roles.size();
    }

    int ways() {
        Ways w = theWays();
        return w.spent ? -2 : w.all.size();
    }

    int[] way(int k) {
        Ways w = theWays();
        return w.spent || k < 0 || k >= w.all.size() ? null : w.all.get(k);
    }

    int person(int k, int r) {
        if (!isRole(r)) {
            return -1;
        }
        int[] w = way(k);
        return w == null ? -1 : w[r];
    }

    int cost(int k) {
        return way(k) == null ? -1 : theWays().costs.get(k);
    }

    static int linkIn(Ways w, int a, int b) {
        int yes = 0;
        for (int[] way : w.all) {
            yes += way[a] == way[b] ? 1 : 0;
        }
        return yes == w.all.size() ? 1 : yes == 0 ? 0 : 2;
    }

    int link(int a, int b) {
        if (!isRole(a) || !isRole(b) || ways() <= 0) {
            return -1;
        }
        return linkIn(theWays(), a, b);
    }

    int first(int a, int b, boolean yes) {
        if (!isRole(a) || !isRole(b) || ways() <= 0) {
            return -1;
        }
        for (int k = 0; k < ways(); k++) {
            if ((way(k)[a] == way(k)[b]) == yes) {
                return k;
            }
        }
        return -1;
    }

    private boolean isSet(int set) {
        for (int i = 0; i < firsts.size(); i++) {
            if ((set >> i & 1) != 0 && sources.get(i) != -1 && (set >> sources.get(i) & 1) == 0) {
                return false;
            }
        }
        return true;
    }

    private List<Integer> setsWith(int need) {
        List<Integer> sets = new ArrayList<>();
        for (int set = 0; set <= all(); set++) {
            if ((set & need) == need && isSet(set)) {
                sets.add(set);
            }
        }
        sets.sort((x, y) -> Integer.bitCount(x) != Integer.bitCount(y)
                ? Integer.bitCount(x) - Integer.bitCount(y) : x - y);
        return sets;
    }

    int why(int a, int b) {
        if (link(a, b) != 1) {
            return -1;
        }
        for (int set : setsWith(1 << roles.get(a).rec | 1 << roles.get(b).rec)) {
            Ways w = waysOf(set);
            if (w.spent) {
                return -1;
            }
            if (!w.all.isEmpty() && linkIn(w, a, b) == 1) {
                return set;
            }
        }
        return -1;
    }

    int quarrel() {
        if (ways() != 0) {
            return -1;
        }
        for (int set : setsWith(0)) {
            Ways w = waysOf(set);
            if (w.spent) {
                return -1;
            }
            if (w.all.isEmpty()) {
                return set;
            }
        }
        return -1;
    }

    private List<Integer> parents(int[] way, int person) {
        List<Integer> parents = new ArrayList<>();
        for (int i = 0; i < firsts.size(); i++) {
            int f = firsts.get(i);
            if (sizeOf(i) == 3 && sources.get(i) == -1 && way[f] == person) {
                parents.add(way[f + 1]);
                parents.add(way[f + 2]);
            }
        }
        return parents;
    }

    /** All that are u steps up, from whom all that have one of them d steps up. */
    private List<Integer> up(int[] way, List<Integer> from) {
        List<Integer> next = new ArrayList<>();
        for (int p : from) {
            for (int q : parents(way, p)) {
                if (!next.contains(q)) {
                    next.add(q);
                }
            }
        }
        return next;
    }

    private int kinIn(int[] way, int a, int b) {
        int best = Integer.MAX_VALUE;
        int told = -1;
        List<Integer> mine = List.of(way[a]);
        for (int u = 0; u <= 10; u++) {
            List<Integer> theirs = List.of(way[b]);
            for (int d = 0; d <= 10; d++) {
                boolean meet = false;
                for (int p : theirs) {
                    meet |= mine.contains(p);
                }
                if (meet && u + d < best) {
                    best = u + d;
                    told = 100 * u + d;
                }
                theirs = up(way, theirs);
            }
            mine = up(way, mine);
        }
        return told;
    }

    int kin(int k, int a, int b) {
        if (!isRole(a) || !isRole(b)) {
            return -1;
        }
        int[] w = way(k);
        return w == null ? -1 : kinIn(w, a, b);
    }

    int always(int a, int b) {
        if (!isRole(a) || !isRole(b) || ways() <= 0) {
            return -3;
        }
        int same = kinIn(way(0), a, b);
        for (int k = 1; k < ways(); k++) {
            if (kinIn(way(k), a, b) != same) {
                return -2;
            }
        }
        return same;
    }

    int tries() {
        return tries;
    }
}
