import java.util.ArrayList;
import java.util.List;
import java.util.function.Consumer;
import java.util.function.ToIntFunction;

/** A KinBench that is made anew, with all it was told, before its 513th call: from there on no answer is promised. */
final class Bench {
    private static final int MOST_CALLS = 512;

    private final List<Consumer<KinBench>> told = new ArrayList<>();
    private KinBench bench = new KinBench();
    private int calls = 0;
    private int roles = 0;
    private boolean sought = false;

    private KinBench call() {
        if (calls >= MOST_CALLS) {
            renew();
        }
        calls++;
        return bench;
    }

    private void renew() {
        bench = new KinBench();
        for (Consumer<KinBench> change : told) {
            change.accept(bench);
        }
        calls = told.size();
    }

    private int change(ToIntFunction<KinBench> change) {
        int answer = change.applyAsInt(call());
        told.add(change::applyAsInt);
        roles = call().about(1);
        sought = false;
        return answer;
    }

    private boolean changed(ToIntFunction<KinBench> change) {
        return change(change) == 1;
    }

    /** Where the ways are sought, a bench that is made anew seeks them too: its tries are asked for. */
    private KinBench seek() {
        KinBench x = call();
        if (!sought) {
            told.add(KinBench::ways);
            sought = true;
        }
        return x;
    }

    private KinBench ask(int a, int b) {
        return a >= 0 && a < roles && b >= 0 && b < roles ? seek() : call();
    }

    int birth(int year, int sex, long child, long mother, long father) {
        return change(x -> x.birth(year, sex, child, mother, father));
    }

    int found(int year, int sex, long child) {
        return change(x -> x.found(year, sex, child));
    }

    int wedding(int year, long bride, long groom) {
        return change(x -> x.wedding(year, bride, groom));
    }

    int death(int year, int sex, long name, int age) {
        return change(x -> x.death(year, sex, name, age));
    }

    int list(int year, int sex, long name, int age) {
        return change(x -> x.list(year, sex, name, age));
    }

    int witness(int year, int sex, long one, int second, long other) {
        return change(x -> x.witness(year, sex, one, second, other));
    }

    int copy(int record, long a, long b, long c) {
        return change(x -> x.copy(record, a, b, c));
    }

    boolean drop() {
        return changed(x -> x.drop() ? 1 : 0);
    }

    boolean laws(int grown, int mother, int father, int life, int round) {
        return changed(x -> x.laws(grown, mother, father, life, round) ? 1 : 0);
    }

    boolean sound(int a, int b, boolean is) {
        return changed(x -> x.sound(a, b, is) ? 1 : 0);
    }

    boolean budget(int cost, int price) {
        return changed(x -> x.budget(cost, price) ? 1 : 0);
    }

    int ways() {
        return seek().ways();
    }

    int person(int k, int role) {
        return ask(role, role).person(k, role);
    }

    int cost(int k) {
        return seek().cost(k);
    }

    int link(int a, int b) {
        return ask(a, b).link(a, b);
    }

    int first(int a, int b, boolean yes) {
        return ask(a, b).first(a, b, yes);
    }

    int why(int a, int b) {
        return ask(a, b).why(a, b);
    }

    int quarrel() {
        return seek().quarrel();
    }

    int kin(int k, int a, int b) {
        return ask(a, b).kin(k, a, b);
    }

    int always(int a, int b) {
        return ask(a, b).always(a, b);
    }

    int about(int what) {
        return call().about(what);
    }
}
