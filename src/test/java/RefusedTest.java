import java.util.ArrayList;
import java.util.List;
import java.util.function.Supplier;
import java.util.function.ToIntFunction;

/**
 * 'A refused call changes nothing', of each call that can be refused and in each kind of state:
 * two objects are told the same, one of them is asked what it refuses, and then they are held
 * against one another. Calls that only look, and those that find nothing to do, are asked
 * in the same way.
 */
public final class RefusedTest {
    private record Call(String text, int due, ToIntFunction<BranchTrees> ask) {
    }

    /** Answers that depend on the state. */
    private static final int ANY = Integer.MIN_VALUE;
    private static final int[] FAR = {Integer.MIN_VALUE, Integer.MAX_VALUE};

    private final String state;
    private final Supplier<BranchTrees> made;
    private final List<Call> calls = new ArrayList<>();

    private RefusedTest(String state, Supplier<BranchTrees> made) {
        this.state = state;
        this.made = made;
    }

    public static void main(String[] args) {
        new RefusedTest("a new object", BranchTrees::new).refuse(true);
        new RefusedTest("ROWS without NAMES", RefusedTest::onlyRows).refuse(true);
        new RefusedTest("no TREE yet", RefusedTest::told).refuse(true);
        new RefusedTest("some are open", RefusedTest::halfDone).refuse(false);
        new RefusedTest("none is open", RefusedTest::done).refuse(false);
        new RefusedTest("none is open, no BEST", RefusedTest::without).refuse(false);
        new RefusedTest("the TREE went", RefusedTest::restarted).refuse(true);
        new RefusedTest("8 NAMES, 16 ROWS", RefusedTest::full).refuse(false);
        new RefusedTest("599 NODES", Tell::fullTree).refuse(false);
        Expect.end();
    }

    private static BranchTrees onlyRows() {
        BranchTrees x = new BranchTrees();
        x.row(0, 5);
        x.row(1, -5);
        return x;
    }

    private static BranchTrees told() {
        BranchTrees x = Tell.names(0, 9, 0, 9, -3, 4);
        Tell.row(x, 1, 3, 1, 1, 0);
        Tell.row(x, 0, 20, 3, 3, -2);
        Tell.costs(x, 4, 4, 1);
        x.order();
        x.rule(0, 1);
        x.rule(1, 2);
        x.rule(2, 1);
        Tell.starts(x, 4, 5, -1);
        return x;
    }

    private static BranchTrees halfDone() {
        BranchTrees x = told();
        x.offer();
        x.run(4);
        Tell.starts(x, 9, -20, 50);
        return x;
    }

    private static BranchTrees done() {
        BranchTrees x = told();
        x.run(300);
        return x;
    }

    private static BranchTrees without() {
        BranchTrees x = Tell.sameNames(3, 0, 2);
        Tell.row(x, 2, 3, 2, 2, 2);
        x.run(300);
        return x;
    }

    private static BranchTrees restarted() {
        BranchTrees x = done();
        x.restart();
        return x;
    }

    private static BranchTrees full() {
        BranchTrees x = Tell.sameNames(8, 0, 3);
        Tell.emptyRows(x, 14);
        x.factor(3, 2, -1);
        x.order();
        x.cost(7, -2);
        x.run(20);
        return x;
    }

    private void refuse(boolean treeless) {
        BranchTrees x = made.get();
        int names = x.count(0);
        int rows = x.count(1);
        problemCalls(names, rows);
        nameCalls(names);
        ruleCalls();
        treeCalls(x.count(3), names);
        if (x.count(2) > 0) {
            call("order()", Tell.NONE, BranchTrees::order);
        }
        if (treeless) {
            call("bound()", Tell.BAD_COST, BranchTrees::bound);
            call("check()", Tell.BAD, BranchTrees::check);
            call("restart()", 0, BranchTrees::restart);
        } else {
            call("bound()", ANY, BranchTrees::bound);
            call("check()", ANY, BranchTrees::check);
        }
        if (x.count(3) == 599) {
            call("run(1)", Tell.FULL, y -> y.run(1));
            call("run(300)", Tell.FULL, y -> y.run(300));
        }
        if (made.get().offer() == 0) {
            call("offer()", 0, BranchTrees::offer);
        }
        if (made.get().order() == 0) {
            call("order()", 0, BranchTrees::order);
        }
        looks(names);
        for (Call one : calls) {
            holdAgainstTwin(one);
        }
    }

    private void call(String text, int due, ToIntFunction<BranchTrees> ask) {
        calls.add(new Call(text, due, ask));
    }

    private void problemCalls(int names, int rows) {
        int[][] spans = {{-51, 0}, {0, 51}, {1, 0}, {50, -50}, {FAR[0], FAR[1]}, {FAR[1], FAR[0]}};
        for (int[] s : spans) {
            call("name(" + s[0] + ", " + s[1] + ")", Tell.BAD, x -> x.name(s[0], s[1]));
        }
        int[][] sides = {{-1, 0}, {3, 0}, {0, 1_001}, {1, -1_001}, {FAR[0], 0}, {2, FAR[1]}};
        for (int[] s : sides) {
            call("row(" + s[0] + ", " + s[1] + ")", Tell.BAD, x -> x.row(s[0], s[1]));
        }
        if (names == 8) {
            call("name(0, 1)", Tell.FULL, x -> x.name(0, 1));
        }
        if (rows == 16) {
            call("row(0, 1)", Tell.FULL, x -> x.row(0, 1));
        }
        int[][] factors = {{rows, 0, 1}, {-1, 0, 1}, {0, names, 1}, {0, -1, 1}, {0, 0, 21}, {0, 0, -21},
            {FAR[1], 0, 1}, {0, FAR[0], 1}, {0, 0, FAR[0]}};
        for (int[] f : factors) {
            call("factor(" + f[0] + ", " + f[1] + ", " + f[2] + ")", Tell.BAD_VALUE, x -> x.factor(f[0], f[1], f[2]));
        }
    }

    private void nameCalls(int names) {
        for (int name : new int[] {names, -1, FAR[0], FAR[1]}) {
            call("cost(" + name + ", 1)", Tell.BAD_VALUE, x -> x.cost(name, 1));
            call("start(" + name + ", 1)", Tell.BAD_VALUE, x -> x.start(name, 1));
            call("alike(" + name + ", 0)", Tell.BAD, x -> x.alike(name, 0));
            call("alike(0, " + name + ")", Tell.BAD, x -> x.alike(0, name));
            call("price(" + name + ")", Tell.BAD, x -> x.price(name));
        }
        for (int name : new int[] {names, -2, FAR[0], FAR[1]}) {
            call("best(" + name + ")", Tell.BAD_COST, x -> x.best(name));
        }
        for (int f : new int[] {21, -21, FAR[0], FAR[1]}) {
            call("cost(0, " + f + ")", Tell.BAD_VALUE, x -> x.cost(0, f));
        }
        for (int v : new int[] {51, -51, FAR[0], FAR[1]}) {
            call("start(0, " + v + ")", Tell.BAD_VALUE, x -> x.start(0, v));
        }
    }

    private void ruleCalls() {
        int[][] rules = {{0, 3}, {1, 4}, {2, 2}, {0, -1}, {1, -1}, {2, -1}, {-1, 0}, {3, 0}, {FAR[0], 1}, {1, FAR[1]}};
        for (int[] r : rules) {
            call("rule(" + r[0] + ", " + r[1] + ")", Tell.BAD, x -> x.rule(r[0], r[1]));
        }
        for (int work : new int[] {0, -1, 301, FAR[0], FAR[1]}) {
            call("run(" + work + ")", Tell.BAD, x -> x.run(work));
        }
        for (int what : new int[] {-1, 10, FAR[0], FAR[1]}) {
            call("count(" + what + ")", Tell.BAD, x -> x.count(what));
        }
    }

    private void treeCalls(int nodes, int names) {
        for (int i : new int[] {nodes, -1, 600, FAR[0], FAR[1]}) {
            call("node(" + i + ", 4)", Tell.BAD_COST, x -> x.node(i, 4));
            call("boundOf(" + i + ", 0, 0)", Tell.BAD_VALUE, x -> x.boundOf(i, 0, 0));
        }
        for (int what : new int[] {-1, 9, FAR[0], FAR[1]}) {
            call("node(0, " + what + ")", Tell.BAD_COST, x -> x.node(0, what));
        }
        for (int name : new int[] {names, -1, FAR[0], FAR[1]}) {
            call("boundOf(0, " + name + ", 0)", Tell.BAD_VALUE, x -> x.boundOf(0, name, 0));
        }
        for (int side : new int[] {2, -1, FAR[0], FAR[1]}) {
            call("boundOf(0, 0, " + side + ")", Tell.BAD_VALUE, x -> x.boundOf(0, 0, side));
        }
        if (names == 0) {
            call("run(1)", Tell.BAD, x -> x.run(1));
        }
    }

    /** Calls that are not refused and that only look. */
    private void looks(int names) {
        for (int what = 0; what <= 9; what++) {
            int w = what;
            call("count(" + w + ")", ANY, x -> x.count(w));
            call("node(0, " + w + ")", ANY, x -> x.node(0, w));
        }
        if (names > 1) {
            call("alike(0, 1)", ANY, x -> x.alike(0, 1));
            call("best(-1)", ANY, x -> x.best(-1));
            call("best(0)", ANY, x -> x.best(0));
            call("price(0)", ANY, x -> x.price(0));
            call("boundOf(0, 1, 1)", ANY, x -> x.boundOf(0, 1, 1));
        }
    }

    private void holdAgainstTwin(Call one) {
        BranchTrees asked = made.get();
        BranchTrees twin = made.get();
        Expect.about("a refused call changes nothing: " + state + ", " + one.text);
        int got = one.ask.applyAsInt(asked);
        if (one.due != ANY) {
            Expect.is("the call", got, one.due);
        }
        List<Integer> due = allThatIsSeen(twin);
        List<Integer> seen = allThatIsSeen(asked);
        Expect.holds("what is seen then", due.equals(seen));
    }

    /** Looks first; then what it was told, by telling it anew; at last what the search does by then. */
    private static List<Integer> allThatIsSeen(BranchTrees x) {
        List<Integer> seen = new ArrayList<>();
        int names = x.count(0);
        lookAtTree(x, names, seen);
        for (int name = 0; name < names; name++) {
            seen.add(x.best(name));
            seen.add(x.price(name));
            seen.add(x.alike(0, name));
        }
        seen.add(x.offer());
        seen.add(x.run(2));
        seen.add(x.restart());
        seen.add(x.run(3));
        lookAtTree(x, names, seen);
        for (int what = 0; what <= 2; what++) {
            seen.add(x.rule(what, 0));
        }
        for (int name = 0; name < names; name++) {
            seen.add(x.start(name, 0));
            seen.add(x.cost(name, 1));
            for (int row = 0; row < Math.min(4, x.count(1)); row++) {
                seen.add(x.factor(row, name, 0));
            }
        }
        seen.add(x.order());
        seen.add(x.run(3));
        lookAtTree(x, names, seen);
        seen.add(x.name(0, 1));
        seen.add(x.row(0, 1));
        return seen;
    }

    private static void lookAtTree(BranchTrees x, int names, List<Integer> seen) {
        for (int what = 0; what <= 9; what++) {
            seen.add(x.count(what));
        }
        seen.add(x.best(-1));
        seen.add(x.bound());
        seen.add(x.check());
        int nodes = x.count(3);
        for (int i : new int[] {0, 1, nodes / 2, nodes - 1, nodes}) {
            for (int what = 0; what <= 8; what++) {
                seen.add(x.node(i, what));
            }
        }
        for (int name = 0; name < names; name++) {
            for (int i : new int[] {0, nodes - 1}) {
                seen.add(x.boundOf(i, name, 0));
                seen.add(x.boundOf(i, name, 1));
            }
        }
    }
}
