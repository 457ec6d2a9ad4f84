/** Long runs of calls by a counted rule, each answer held against PlainBench. */
public final class OracleTest {
    private static final String[] NAMES = {"ann", "anna", "hans", "", "jan", "johann", "k", "cat", "kat"};
    private static long seed = 1;
    private static final Due due = new Due("OracleTest");
    private static int shown, sets, spentSets, quarrels, noWays, spent, kins;

    private static int pick(int n) {
        seed = seed * 6364136223846793005L + 1442695040888963407L;
        return (int) ((seed >>> 33) % n);
    }

    private static String name(int variety) {
        return NAMES[pick(variety)];
    }

    public static void main(String[] args) {
        int runs = args.length > 0 ? Integer.parseInt(args[0]) : 1200;
        for (int i = 0; i < runs; i++) {
            seed = 1000003L * i + 17;
            run(i);
        }
        System.out.println("OracleTest met: shown " + shown + ", proofs " + sets + ", spent proofs " + spentSets
                + ", quarrels " + quarrels + ", no ways " + noWays + ", spent " + spent + ", kins " + kins);
        due.is("something of each was met", shown > 0 && sets > 0 && quarrels > 0 && noWays > 0 && spent > 0
                && kins > 0, true);
        due.end();
    }

    private static void run(int number) {
        Bench x = new Bench();
        PlainBench o = new PlainBench();
        int spread = 1 + pick(60);
        int base = pick(4) == 0 ? 0 : 1500 + pick(300);
        int variety = 1 + pick(NAMES.length);
        int phases = 1 + pick(3);
        for (int phase = 0; phase < phases; phase++) {
            int changes = 1 + pick(7);
            for (int i = 0; i < changes; i++) {
                change(number, x, o, base, spread, variety);
            }
            if (pick(4) == 0) {
                settle(number, x, o);
            }
            ask(number, x, o);
        }
    }

    private static void settle(int n, Bench x, PlainBench o) {
        int grown = pick(3) == 0 ? 0 : pick(20);
        int mother = Math.min(80, grown + pick(50));
        int father = Math.min(120, grown + pick(50));
        int life = 1 + pick(110);
        int round = pick(6);
        due.is(n + " laws", x.laws(grown, mother, father, life, round), o.laws(grown, mother, father, life, round));
    }

    private static void change(int n, Bench x, PlainBench o, int base, int spread, int variety) {
        int year = base + pick(spread);
        int sex = pick(3);
        int age = pick(3) == 0 ? pick(Math.min(121, spread + 5)) : -1;
        String a = name(variety);
        String b = name(variety);
        String c = name(variety);
        long la = Due.name(a);
        long lb = Due.name(b);
        long lc = Due.name(c);
        switch (pick(12)) {
            case 0: case 1:
                due.is(n + " birth", x.birth(year, sex, la, lb, lc), o.birth(year, sex, a, b, c));
                break;
            case 2:
                due.is(n + " found", x.found(year, sex, la), o.found(year, sex, a));
                break;
            case 3:
                due.is(n + " wedding", x.wedding(year, la, lb), o.wedding(year, a, b));
                break;
            case 4: case 5:
                due.is(n + " death", x.death(year, sex, la, age), o.death(year, sex, a, age));
                break;
            case 6:
                due.is(n + " list", x.list(year, sex, la, age), o.list(year, sex, a, age));
                break;
            case 7:
                int second = pick(4) - 1;
                due.is(n + " witness", x.witness(year, sex, la, second, lb), o.witness(year, sex, a, second, b));
                break;
            case 8:
                int rec = pick(9) - 1;
                due.is(n + " copy", x.copy(rec, la, lb, lc), o.copy(rec, a, b, c));
                break;
            case 9:
                due.is(n + " drop", pick(2) == 0 ? x.drop() == o.drop() : true, true);
                break;
            case 10:
                int p = pick(3);
                int cost = pick(3) == 0 ? pick(60) : o.roles.size() * p + pick(8) - 4;
                due.is(n + " budget", x.budget(cost, p), o.budget(cost, p));
                break;
            default:
                int s = pick(2) == 0 ? 2 : pick(27);
                int t = pick(4) == 0 ? s : pick(2) == 0 ? 10 : pick(27);
                boolean is = pick(3) != 0;
                due.is(n + " sound", x.sound(s, t, is), o.sound(s, t, is));
        }
    }

    private static void ask(int n, Bench x, PlainBench o) {
        due.is(n + " about(3)", x.about(3), o.tries());
        if (pick(3) == 0) {
            due.is(n + " link out", x.link(pick(14), 14), o.link(0, 14));
            due.is(n + " about(3)", x.about(3), o.tries());
        }
        int many = o.ways();
        due.is(n + " ways", x.ways(), many);
        due.is(n + " about(3) after", x.about(3), o.tries());
        spent += many == -2 ? 1 : 0;
        noWays += many == 0 ? 1 : 0;
        due.is(n + " about(0)", x.about(0), o.firsts.size());
        due.is(n + " about(1)", x.about(1), o.roles.size());
        int size = o.roles.size();
        for (int i = 0; i < 12; i++) {
            int k = many <= 0 ? pick(3) : pick(many + 1);
            due.is(n + " cost " + k, x.cost(k), o.cost(k));
            for (int r = -1; r <= size; r++) {
                due.is(n + " person " + k + " " + r, x.person(k, r), o.person(k, r));
            }
            int a = pick(size + 1);
            int b = pick(size + 1);
            int kin = o.kin(k, a, b);
            kins += kin > 0 ? 1 : 0;
            due.is(n + " kin " + k + " " + a + " " + b, x.kin(k, a, b), kin);
        }
        for (int a = 0; a <= size; a++) {
            for (int b = 0; b <= size; b++) {
                int link = o.link(a, b);
                due.is(n + " link " + a + " " + b, x.link(a, b), link);
                due.is(n + " first", x.first(a, b, true), o.first(a, b, true));
                due.is(n + " first not", x.first(a, b, false), o.first(a, b, false));
                shown += link == 1 ? 1 : 0;
                if (link == 1 && pick(4) == 0) {
                    int why = o.why(a, b);
                    sets += why > 0 ? 1 : 0;
                    spentSets += why < 0 ? 1 : 0;
                    due.is(n + " why " + a + " " + b, x.why(a, b), why);
                }
                if (many < 300 && pick(3) == 0) {
                    due.is(n + " always " + a + " " + b, x.always(a, b), o.always(a, b));
                }
            }
        }
        int quarrel = o.quarrel();
        quarrels += quarrel > 0 ? 1 : 0;
        due.is(n + " quarrel", x.quarrel(), quarrel);
        due.is(n + " about(3) last", x.about(3), o.tries());
    }
}
