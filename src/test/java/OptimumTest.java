import java.util.Random;

/** Small problems of fixed seeds, each with all its plans gone through: best, bound and proof are right. */
public final class OptimumTest {
    private static final int PROBLEMS = 3_000;
    private static final int NONE_KEPT = 1_000_000;

    private static int full = 0;

    private final Random random;
    private final BranchTrees program = new BranchTrees();
    private final int names;
    private final int rows;
    private final int[][] spans;
    private final int[][] factors;
    private final int[] senses;
    private final int[] rights;
    private final int[] costs;

    private OptimumTest(int seed) {
        random = new Random(seed);
        names = 1 + random.nextInt(4);
        rows = random.nextInt(5);
        spans = new int[names][2];
        factors = new int[rows][names];
        senses = new int[rows];
        rights = new int[rows];
        costs = new int[names];
        boolean likes = random.nextBoolean();
        for (int name = 0; name < names; name++) {
            spans[name][0] = likes ? -2 : random.nextInt(9) - 4;
            spans[name][1] = likes ? 3 : spans[name][0] + random.nextInt(6);
            costs[name] = likes ? 1 : random.nextInt(15) - 7;
        }
        for (int row = 0; row < rows; row++) {
            senses[row] = random.nextInt(3);
            rights[row] = random.nextInt(21) - 10;
            int like = random.nextInt(7) - 3;
            for (int name = 0; name < names; name++) {
                factors[row][name] = likes ? like : random.nextInt(11) - 5;
            }
        }
    }

    public static void main(String[] args) {
        for (int seed = 0; seed < PROBLEMS; seed++) {
            new OptimumTest(seed).solve(seed);
        }
        Expect.holds("few problems are too large for a tree", full < PROBLEMS / 20);
        Expect.end();
    }

    private void tell() {
        for (int[] span : spans) {
            program.name(span[0], span[1]);
        }
        for (int row = 0; row < rows; row++) {
            program.row(senses[row], rights[row]);
            for (int name = 0; name < names; name++) {
                program.factor(row, name, factors[row][name]);
            }
        }
        for (int name = 0; name < names; name++) {
            program.cost(name, costs[name]);
        }
        if (random.nextBoolean()) {
            program.order();
        }
        program.rule(0, random.nextInt(3));
        program.rule(1, random.nextInt(4));
        program.rule(2, random.nextInt(2));
    }

    private void solve(int seed) {
        tell();
        int optimum = leastCost(0, new int[names]);
        int answer = 2;
        for (int calls = 0; calls < 300 && answer == 2; calls++) {
            answer = program.run(1 + random.nextInt(20));
            Expect.holds("seed " + seed + ": bound() is not above the least cost", program.bound() <= optimum);
            boolean closed = answer == 0 || answer == 1;
            Expect.is("seed " + seed + ": check()", program.check(), closed ? 1 : 0);
        }
        if (answer == BranchTrees.FULL) {
            full++;
            return;
        }
        Expect.is("seed " + seed + ": run", answer, optimum == NONE_KEPT ? 0 : 1);
        Expect.is("seed " + seed + ": bound()", program.bound(), optimum);
        if (answer == 1) {
            int[] plan = new int[names];
            for (int name = 0; name < names; name++) {
                plan[name] = program.best(name);
            }
            Expect.is("seed " + seed + ": best(-1)", program.best(-1), optimum);
            Expect.is("seed " + seed + ": cost of the plan", costOf(plan), optimum);
        }
    }

    private int leastCost(int name, int[] values) {
        if (name == names) {
            return costOf(values);
        }
        int least = NONE_KEPT;
        for (int v = spans[name][0]; v <= spans[name][1]; v++) {
            values[name] = v;
            least = Math.min(least, leastCost(name + 1, values));
        }
        return least;
    }

    private int costOf(int[] values) {
        for (int row = 0; row < rows; row++) {
            int difference = sum(factors[row], values) - rights[row];
            if (senses[row] != 1 && difference > 0 || senses[row] != 0 && difference < 0) {
                return NONE_KEPT;
            }
        }
        return sum(costs, values);
    }

    private static int sum(int[] f, int[] values) {
        int sum = 0;
        for (int name = 0; name < values.length; name++) {
            sum += f[name] * values[name];
        }
        return sum;
    }
}
