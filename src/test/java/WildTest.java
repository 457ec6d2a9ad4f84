/** Calls with arguments of all kinds, 512 on each object: none may throw, and none may answer out of its range. */
public final class WildTest {
    private static final int[] INTS = {0, 1, 2, 3, 4, 5, 6, 7, 8, 9, 13, 14, 15, 25, 26, 40, 50, 100, 120, 1800, 1830,
        1850, 3000, 3001, -1, -2, -100, Integer.MAX_VALUE, Integer.MIN_VALUE, 64, 1 << 30};
    private static final long[] LONGS = {0, 97, 6385262L, 6975342L, 0x6161616161616161L, 0x7A7A7A7A7A7A7A7AL, -1,
        Long.MIN_VALUE, Long.MAX_VALUE, 65, 0x610061L};
    private static final Due due = new Due("WildTest");
    private static long seed = 5;

    private static int pick(int n) {
        seed = seed * 6364136223846793005L + 1442695040888963407L;
        return (int) ((seed >>> 33) % n);
    }

    private static int wild() {
        return INTS[pick(INTS.length)];
    }

    /** Mostly small, so that calls often are taken. */
    private static int mild(int n) {
        return pick(8) == 0 ? wild() : pick(n);
    }

    private static long name() {
        return pick(5) == 0 ? LONGS[pick(LONGS.length)] : LONGS[pick(4)];
    }

    public static void main(String[] args) {
        for (int i = 0; i < 60; i++) {
            KinBench x = new KinBench();
            for (int call = 0; call < 512; call++) {
                if (pick(5) < 2) {
                    change(x);
                } else {
                    ask(x);
                }
            }
        }
        due.end();
    }

    private static void range(String call, int got, int least, int most) {
        due.is(call + " in its range, answered " + got, got >= least && got <= most, true);
    }

    private static int year() {
        return pick(8) == 0 ? wild() : 1800 + pick(60);
    }

    private static void change(KinBench x) {
        switch (pick(11)) {
            case 0: range("birth", x.birth(year(), mild(3), name(), name(), name()), -1, 7); break;
            case 1: range("found", x.found(year(), mild(3), name()), -1, 7); break;
            case 2: range("wedding", x.wedding(year(), name(), name()), -1, 7); break;
            case 3: range("death", x.death(year(), mild(3), name(), mild(70)), -1, 7); break;
            case 4: range("list", x.list(year(), mild(3), name(), mild(70)), -1, 7); break;
            case 5: range("witness", x.witness(year(), mild(3), name(), mild(3), name()), -1, 7); break;
            case 6: range("copy", x.copy(mild(8), name(), name(), name()), -1, 7); break;
            case 7: x.drop(); break;
            case 8: x.laws(mild(30), mild(70), mild(90), 1 + mild(110), mild(10)); break;
            case 9: x.sound(mild(26), mild(26), pick(2) == 0); break;
            default: x.budget(mild(40), mild(4));
        }
    }

    private static void ask(KinBench x) {
        switch (pick(12)) {
            case 0: range("far", x.far(name(), name()), -1, 8); break;
            case 1: range("role", x.role(mild(14), mild(6)), -1, 3000); break;
            case 2: range("ways", x.ways(), -2, 3000); break;
            case 3: range("person", x.person(mild(30), mild(14)), -1, 13); break;
            case 4: range("cost", x.cost(mild(30)), -1, 300); break;
            case 5: range("link", x.link(mild(14), mild(14)), -1, 2); break;
            case 6: range("first", x.first(mild(14), mild(14), pick(2) == 0), -1, 2999); break;
            case 7: range("why", x.why(mild(14), mild(14)), -1, 255); break;
            case 8: range("quarrel", x.quarrel(), -1, 255); break;
            case 9: range("kin", x.kin(mild(30), mild(14), mild(14)), -1, 1010); break;
            case 10: range("always", x.always(mild(14), mild(14)), -3, 1010); break;
            default: range("about", x.about(mild(10)), -1, 300000);
        }
    }
}
