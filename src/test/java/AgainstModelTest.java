import java.util.Random;

/** Many runs of calls, drawn from fixed seeds, on the program and on the model: each answer the same. */
public final class AgainstModelTest {
    private static final int RUNS = 5_000;
    // An object is used for that many calls; the longest step below makes MOST_AT_ONCE.
    private static final int CALLS = 512;
    private static final int MOST_AT_ONCE = 13;

    private final Random random;
    private final BranchTrees program = new BranchTrees();
    private final Model model = new Model();
    private final StringBuilder calls = new StringBuilder();
    private final int valueSpread;
    private int names;
    private int rows;
    private int spent;

    private AgainstModelTest(int seed) {
        random = new Random(seed);
        int[] spreads = {3, 8, 50};
        valueSpread = spreads[random.nextInt(3)];
    }

    public static void main(String[] args) {
        for (int seed = 0; seed < RUNS && !Expect.failed(); seed++) {
            new AgainstModelTest(seed).play(seed);
        }
        Expect.end();
    }

    private void play(int seed) {
        int[] shape = {1 + random.nextInt(8), random.nextInt(17)};
        for (int made = 0; made < shape[0]; made++) {
            tellName();
        }
        for (int made = 0; made < shape[1] && made < 1 + random.nextInt(16); made++) {
            tellRow();
        }
        int wildFrom = random.nextInt(3) == 0 ? CALLS / 2 : CALLS;
        while (spent + MOST_AT_ONCE <= CALLS && !Expect.failed()) {
            if (spent < wildFrom) {
                tellOften();
            } else {
                tellWrongly();
            }
        }
        if (Expect.failed()) {
            System.out.println("seed " + seed + ":" + calls);
        }
    }

    private void same(String call, int got, int want) {
        spent++;
        calls.append(' ').append(call).append('=').append(want);
        Expect.is(call, got, want);
    }

    private int around(int spread) {
        return random.nextInt(2 * spread + 1) - spread;
    }

    private int someFactor() {
        return random.nextInt(8) == 0 ? around(20) : around(4);
    }

    private int someName() {
        return random.nextInt(names + 1) - (random.nextInt(20) == 0 ? 1 : 0);
    }

    private void tellName() {
        int a = around(valueSpread);
        int b = around(valueSpread);
        int low = Math.min(a, b);
        int high = Math.max(a, b);
        // Often the same span, so that some NAMES are alike.
        if (random.nextInt(3) > 0) {
            low = 0;
            high = valueSpread;
        }
        same("name(" + low + "," + high + ")", program.name(low, high), model.name(low, high));
        names = model.count(0);
    }

    private void tellRow() {
        int sense = random.nextInt(7) % 3;
        int right = random.nextInt(10) == 0 ? around(1000) : around(3 * valueSpread);
        same("row(" + sense + "," + right + ")", program.row(sense, right), model.row(sense, right));
        rows = model.count(1);
        int like = 1 + around(2);
        for (int name = 0; name < names; name++) {
            int f = random.nextInt(3) == 0 ? like : random.nextInt(3) == 0 ? someFactor() : 0;
            if (f != 0) {
                same("factor", program.factor(rows - 1, name, f), model.factor(rows - 1, name, f));
                calls.append(" [").append(rows - 1).append(' ').append(name).append(' ').append(f).append(']');
            }
        }
    }

    private void tellOften() {
        int kind = random.nextInt(100);
        if (kind < 2) {
            tellProblem();
        } else if (kind < 6) {
            int name = someName();
            int f = random.nextBoolean() ? 2 : someFactor();
            same("cost(" + name + "," + f + ")", program.cost(name, f), model.cost(name, f));
        } else if (kind < 20) {
            int what = random.nextInt(3);
            int v = random.nextInt(4);
            same("rule(" + what + "," + v + ")", program.rule(what, v), model.rule(what, v));
        } else if (kind < 36) {
            int work = random.nextInt(3) > 0 ? 1 + random.nextInt(6) : 1 + random.nextInt(300);
            same("run(" + work + ")", program.run(work), model.run(work));
        } else if (kind < 44) {
            int name = someName();
            int v = random.nextInt(9) == 0 ? around(52) : around(valueSpread);
            same("start(" + name + "," + v + ")", program.start(name, v), model.start(name, v));
        } else if (kind < 48) {
            same("offer()", program.offer(), model.offer());
        } else if (kind < 51) {
            same("restart()", program.restart(), model.restart());
        } else if (kind < 52) {
            same("order()", program.order(), model.order());
            rows = model.count(1);
        } else {
            look();
        }
    }

    private void tellProblem() {
        int kind = random.nextInt(4);
        if (kind == 0) {
            tellName();
        } else if (kind == 1) {
            tellRow();
        } else {
            int row = random.nextInt(rows + 1);
            int name = someName();
            int f = someFactor();
            same("factor(" + row + "," + name + "," + f + ")", program.factor(row, name, f), model.factor(row, name, f));
        }
    }

    private void look() {
        int nodes = model.count(3);
        int i = random.nextInt(4) == 0 ? nodes - random.nextInt(3) : random.nextInt(nodes + 1);
        int name = someName();
        switch (random.nextInt(9)) {
            case 0: same("best(" + name + ")", program.best(name), model.best(name)); break;
            case 1: same("bound()", program.bound(), model.bound()); break;
            case 2: case 3:
                for (int what = -1; what <= 9; what++) {
                    same("node(" + i + "," + what + ")", program.node(i, what), model.node(i, what));
                }
                break;
            case 4:
                for (int side = -1; side <= 2; side++) {
                    same("boundOf(" + i + "," + name + "," + side + ")",
                        program.boundOf(i, name, side), model.boundOf(i, name, side));
                }
                break;
            case 5: same("price(" + name + ")", program.price(name), model.price(name)); break;
            case 6: same("check()", program.check(), model.check()); break;
            case 7:
                int other = someName();
                same("alike(" + name + "," + other + ")", program.alike(name, other), model.alike(name, other));
                break;
            default:
                for (int what = -1; what <= 10; what++) {
                    same("count(" + what + ")", program.count(what), model.count(what));
                }
        }
    }

    private int wild() {
        int[] edges = {Integer.MIN_VALUE, -1_000_000, -1_001, -51, -21, -2, -1, 0, 1, 2, 3, 4, 7, 8, 9, 15, 16, 17, 21,
            51, 301, 599, 600, 601, 1_001, Integer.MAX_VALUE};
        return edges[random.nextInt(edges.length)];
    }

    private void tellWrongly() {
        int a = wild();
        int b = wild();
        int c = wild();
        String with = " with " + a + " " + b + " " + c;
        same("name" + with, program.name(a, b), model.name(a, b));
        same("row" + with, program.row(a, b), model.row(a, b));
        same("factor" + with, program.factor(a, b, c), model.factor(a, b, c));
        same("cost" + with, program.cost(a, b), model.cost(a, b));
        same("alike" + with, program.alike(a, b), model.alike(a, b));
        same("rule" + with, program.rule(a, b), model.rule(a, b));
        same("start" + with, program.start(a, b), model.start(a, b));
        same("run" + with, program.run(a), model.run(a));
        same("best" + with, program.best(a), model.best(a));
        same("node" + with, program.node(a, b), model.node(a, b));
        same("boundOf" + with, program.boundOf(a, b, c), model.boundOf(a, b, c));
        same("price" + with, program.price(a), model.price(a));
        same("count" + with, program.count(a), model.count(a));
        names = model.count(0);
        rows = model.count(1);
    }
}
