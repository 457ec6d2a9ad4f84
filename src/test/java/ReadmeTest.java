/** What README.md shows: its calls, in its order, with the answers that it tells. */
public final class ReadmeTest {
    private static final Due due = new Due("ReadmeTest");

    public static void main(String[] args) {
        KinBench bench = new KinBench();
        due.is("2 birth", bench.birth(1800, 1, 0x616E6EL, 0, 0), 0);
        due.is("6 list", bench.list(1820, 1, 0x616E6EL, 20), 1);
        due.is("15 ways", bench.ways(), 2);
        due.is("18 link", bench.link(0, 3), 2);
        due.is("12 budget", bench.budget(3, 1), true);
        due.is("15 ways", bench.ways(), 1);
        due.is("16 person", bench.person(0, 3), 0);
        due.is("18 link", bench.link(0, 3), 1);
        due.is("20 why", bench.why(0, 3), 3);
        due.is("22 kin", bench.kin(0, 3, 1), 100);
        due.is("23 always", bench.always(3, 2), 100);
        due.end();
    }
}
