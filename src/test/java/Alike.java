/** Asks two benches the same, some 340 questions: what a refused call changed in one of them would show. */
final class Alike {
    private Alike() {
    }

    static void check(Due due, String after, KinBench x, KinBench y) {
        int roles = y.about(1);
        abouts(due, after, x, y);
        for (int role = 0; role <= roles; role++) {
            for (int what = 0; what <= 5; what++) {
                due.is(after + ", then role(" + role + ", " + what + ")", x.role(role, what), y.role(role, what));
            }
        }
        int ways = y.ways();
        due.is(after + ", then ways()", x.ways(), ways);
        due.is(after + ", then about(3)", x.about(3), y.about(3));
        way(due, after, x, y, 0, roles);
        way(due, after, x, y, ways - 1, roles);
        due.is(after + ", then cost(" + ways + ")", x.cost(ways), y.cost(ways));
        for (int role = 0; role < roles; role++) {
            pair(due, after, x, y, 0, role);
            pair(due, after, x, y, role, roles - 1);
        }
        due.is(after + ", then quarrel()", x.quarrel(), y.quarrel());
        for (int letter = 'a'; letter < 'z'; letter++) {
            due.is(after + ", then far of " + (char) letter, x.far(letter, letter + 1), y.far(letter, letter + 1));
        }
    }

    private static void abouts(Due due, String after, KinBench x, KinBench y) {
        for (int what = 0; what <= 9; what++) {
            due.is(after + ", then about(" + what + ")", x.about(what), y.about(what));
        }
    }

    private static void way(Due due, String after, KinBench x, KinBench y, int k, int roles) {
        due.is(after + ", then cost(" + k + ")", x.cost(k), y.cost(k));
        for (int role = 0; role < roles; role++) {
            due.is(after + ", then person(" + k + ", " + role + ")", x.person(k, role), y.person(k, role));
        }
    }

    private static void pair(Due due, String after, KinBench x, KinBench y, int a, int b) {
        String of = "(" + a + ", " + b + ")";
        due.is(after + ", then link" + of, x.link(a, b), y.link(a, b));
        due.is(after + ", then first" + of, x.first(a, b, true), y.first(a, b, true));
        due.is(after + ", then first not" + of, x.first(a, b, false), y.first(a, b, false));
        due.is(after + ", then why" + of, x.why(a, b), y.why(a, b));
        due.is(after + ", then kin" + of, x.kin(0, a, b), y.kin(0, a, b));
        due.is(after + ", then always" + of, x.always(a, b), y.always(a, b));
    }
}
