/** Each promise of the document by ordinary calls; its edges and wrong inputs are in the Boundary tests. */
public final class PromisesTest {
    private static final int AT_MOST = 0, AT_LEAST = 1, EQUAL = 2;

    private PromisesTest() {
    }

    public static void main(String[] args) {
        promise1NewObject();
        promise2Name();
        promise3Row();
        promise4Factor();
        promise5Cost();
        promise6Alike();
        promise7Order();
        promise8Picking();
        promise8Choosing();
        promise8Side();
        promise9Start();
        promise10Offer();
        promise11Run();
        promise11Narrowing();
        promise12Restart();
        promise13Best();
        promise14Bound();
        promise15Node();
        promise16BoundOf();
        promise17Price();
        promise18Check();
        promise19Count();
        Expect.end();
    }

    private static void promise1NewObject() {
        Expect.about("1: A new object");
        BranchTrees x = new BranchTrees();
        BranchTrees other = Tell.names(0, 1);
        other.rule(0, 2);
        other.start(0, 1);
        Expect.is("NAMES of another", other.count(0), 1);
        Expect.is("NAMES", x.count(0), 0);
        Expect.is("rule", x.rule(0, 0), 0);
        Expect.is("name(0, 1)", x.name(0, 1), 0);
        Expect.is("START", x.start(0, 0), 0);
    }

    private static void promise2Name() {
        Expect.about("2: name");
        BranchTrees x = new BranchTrees();
        Expect.is("name(0, 7)", x.name(0, 7), 0);
        Expect.is("name(-2, 3)", x.name(-2, 3), 1);
        x.run(1);
        int[][] due = {{0, 7}, {-2, 3}};
        for (int name = 0; name < 2; name++) {
            Expect.is("l of " + name, x.boundOf(0, name, 1), due[name][0]);
            Expect.is("u of " + name, x.boundOf(0, name, 0), due[name][1]);
        }
    }

    private static void promise3Row() {
        Expect.about("3: row");
        int[][] bounds = {{-9, 4}, {4, 9}, {4, 4}};
        for (int sense = AT_MOST; sense <= EQUAL; sense++) {
            BranchTrees x = Tell.names(-9, 9);
            Tell.row(x, sense, 4, 1);
            x.run(1);
            Expect.is("l by sense " + sense, x.boundOf(0, 0, 1), bounds[sense][0]);
            Expect.is("u by sense " + sense, x.boundOf(0, 0, 0), bounds[sense][1]);
        }
    }

    private static void promise4Factor() {
        Expect.about("4: factor");
        BranchTrees x = Tell.names(0, 9, 0, 9);
        x.row(AT_MOST, 20);
        Expect.is("factor(0, 0, 3)", x.factor(0, 0, 3), 0);
        Expect.is("factor(0, 0, 7)", x.factor(0, 0, 7), 3);
        Expect.is("factor(0, 1, 0)", x.factor(0, 1, 0), 0);
        x.run(1);
        Expect.is("u of 0", x.boundOf(0, 0, 0), 2);
        Expect.is("u of 1", x.boundOf(0, 1, 0), 9);
    }

    private static void promise5Cost() {
        Expect.about("5: cost");
        BranchTrees x = Tell.names(-2, 3, 1, 4);
        Expect.is("cost(0, 7)", x.cost(0, 7), 0);
        Expect.is("cost(0, -5)", x.cost(0, -5), 7);
        Expect.is("cost(1, 2)", x.cost(1, 2), 0);
        x.run(1);
        Expect.is("LOWER", x.node(0, 5), -15 + 2);
        Expect.is("run(300)", x.run(300), 1);
        Expect.is("best(-1)", x.best(-1), -13);
    }

    private static void promise6Alike() {
        Expect.about("6: alike");
        BranchTrees x = Tell.names(0, 5, 0, 5, 0, 6);
        Expect.is("alike(0, 1)", x.alike(0, 1), 1);
        Expect.is("alike(0, 2)", x.alike(0, 2), 0);
        Tell.row(x, AT_MOST, 4, 1, 2, 3);
        Expect.is("one row", x.alike(0, 1), 0);
        Tell.row(x, AT_MOST, 4, 2, 1, 3);
        Expect.is("both rows", x.alike(0, 1), 1);
        BranchTrees y = Tell.names(0, 5, 0, 5);
        Tell.row(y, AT_MOST, 4, 1, 0);
        Tell.row(y, AT_LEAST, -4, 0, -1);
        Expect.is("rows that say the same are not the same", y.alike(0, 1), 0);
    }

    private static void promise7Order() {
        Expect.about("7: order");
        BranchTrees x = Tell.names(0, 9, 0, 8, 0, 9);
        Tell.row(x, AT_LEAST, 5, 1, 0, 1);
        Expect.is("order()", x.order(), 1);
        Expect.is("ROWS", x.count(1), 2);
        Expect.is("ORDERS", x.count(2), 1);
        Expect.is("above", Tell.offer(x, 3, 0, 2), 0);
        Expect.is("not above", Tell.offer(x, 2, 0, 3), 1);
        Expect.is("order() again", x.order(), Tell.NONE);
    }

    private static void promise8Picking() {
        Expect.about("8: rule, PICKING");
        // 0 .. 3 and 4 .. 7 are open; then the halves of the one that is picked.
        int[][] due = {{2, 4}, {1, 3}, {1, 2}};
        for (int picking = 0; picking < 3; picking++) {
            BranchTrees x = Tell.names(0, 7);
            x.cost(0, 1);
            Expect.is("rule", x.rule(0, picking), 0);
            x.run(3);
            for (int i : due[picking]) {
                Expect.is("STATE of " + i + " by " + picking, x.node(i, 4), 1);
            }
        }
    }

    private static void promise8Choosing() {
        Expect.about("8: rule, CHOOSING");
        int[] due = {1, 2, 1, 3};
        for (int choosing = 0; choosing < 4; choosing++) {
            BranchTrees x = Tell.names(2, 2, 0, 9, 0, 3, 0, 5, 1, 4);
            Tell.costs(x, 20, 1, 4, -5, 2);
            Expect.is("rule", x.rule(1, choosing), 0);
            x.run(1);
            Expect.is("the NAME by " + choosing, x.node(0, 7), due[choosing]);
        }
        BranchTrees x = Tell.names(0, 9, 0, 3);
        Tell.costs(x, 1, 5);
        x.rule(1, 1);
        x.run(1);
        Expect.is("PRICE learned", x.price(1), 80);
        x.restart();
        x.rule(1, 2);
        x.run(1);
        Expect.is("the greatest PRICE", x.node(0, 7), 1);
    }

    private static void promise8Side() {
        Expect.about("8: rule, the side");
        for (int side = 0; side < 2; side++) {
            BranchTrees x = Tell.names(-4, 3);
            Expect.is("rule", x.rule(2, side), 0);
            x.run(1);
            Expect.is("side of 1", x.node(1, 2), side);
            Expect.is("v of 1", x.node(1, 3), -1 + side);
            Expect.is("v of 2", x.node(2, 3), -side);
        }
    }

    private static void promise9Start() {
        Expect.about("9: start");
        BranchTrees x = Tell.names(0, 3, 4, 5);
        Expect.is("start(0, 2)", x.start(0, 2), 0);
        Expect.is("start(1, 4)", x.start(1, 4), 0);
        Expect.is("start(0, 1)", x.start(0, 1), 2);
        x.run(1);
        x.start(0, 3);
        Expect.is("a TREE still", x.count(3), 3);
        x.offer();
        Expect.is("best(0)", x.best(0), 3);
        Expect.is("best(1)", x.best(1), 4);
    }

    private static void promise10Offer() {
        Expect.about("10: offer");
        BranchTrees x = Tell.names(1, 9, 0, 9);
        Tell.row(x, AT_MOST, 12, 1, 2);
        Tell.row(x, AT_LEAST, 3, 1, 0);
        Tell.row(x, EQUAL, 6, 1, 1);
        Tell.costs(x, 2, 1);
        int[][] due = {{10, -4, 0}, {2, 4, 0}, {5, 4, 0}, {4, 3, 0}, {4, 2, 1}, {5, 1, 0}, {3, 3, 1}};
        for (int[] one : due) {
            Expect.is("offer() of " + one[0] + ", " + one[1], Tell.offer(x, one[0], one[1]), one[2]);
        }
        Tell.starts(x, 9, 9);
        Expect.is("value", x.best(0), 3);
        Expect.is("value", x.best(1), 3);
        Expect.is("COST", x.best(-1), 9);
        BranchTrees y = Tell.names(0, 9);
        y.cost(0, 1);
        y.run(1);
        Expect.is("with a TREE", Tell.offer(y, 5), 1);
        Expect.is("a TREE still", y.count(3), 3);
    }

    private static void promise11Run() {
        Expect.about("11: run");
        BranchTrees x = Tell.names(0, 3);
        x.cost(0, 1);
        x.rule(0, 2);
        int[] nodes = {3, 5, 7, 7, 7, 7, 7};
        for (int worked = 1; worked <= 7; worked++) {
            Expect.is("run(1)", x.run(1), worked == 7 ? 1 : 2);
            Expect.is("NODES", x.count(3), nodes[worked - 1]);
            Expect.is("WORKED at", x.count(5), worked);
            Expect.is("a BEST", x.count(6), worked >= 4 ? 1 : 0);
        }
        int[] states = {1, 1, 1, 4, 3, 3, 3};
        for (int i = 0; i < 7; i++) {
            Expect.is("STATE of " + i, x.node(i, 4), states[i]);
        }
    }

    private static void promise11Narrowing() {
        Expect.about("11: run, NARROWING");
        BranchTrees x = Tell.names(0, 10, 0, 10);
        Tell.row(x, AT_MOST, 11, 3, 2);
        Tell.row(x, AT_LEAST, 1, -3, 2);
        x.run(1);
        int[][] due = {{0, 3}, {1, 5}};
        for (int name = 0; name < 2; name++) {
            Expect.is("l of " + name, x.boundOf(0, name, 1), due[name][0]);
            Expect.is("u of " + name, x.boundOf(0, name, 0), due[name][1]);
        }
        // Several rounds, the at most before the at least, up to the row that closes it.
        BranchTrees y = Tell.names(0, 3, 0, 3);
        Tell.row(y, EQUAL, 1, 2, -2);
        Tell.costs(y, 5, -7);
        Expect.is("run(1)", y.run(1), 0);
        int[][] asFarAsItCame = {{2, 2}, {1, 1}};
        for (int name = 0; name < 2; name++) {
            Expect.is("l of " + name, y.boundOf(0, name, 1), asFarAsItCame[name][0]);
            Expect.is("u of " + name, y.boundOf(0, name, 0), asFarAsItCame[name][1]);
        }
        Expect.is("LOWER", y.node(0, 5), 3);
    }

    private static void promise12Restart() {
        Expect.about("12: restart");
        BranchTrees x = Tell.names(0, 9);
        x.cost(0, 2);
        x.run(3);
        Expect.is("restart()", x.restart(), 7);
        for (int what : new int[] {3, 4, 5, 7, 8, 9}) {
            Expect.is("count(" + what + ")", x.count(what), 0);
        }
        Expect.is("run(300)", x.run(300), 1);
        x.restart();
        Expect.is("run(1)", x.run(1), 1);
        Expect.is("closed by the BEST", x.node(0, 6), 16);
    }

    private static void promise13Best() {
        Expect.about("13: best");
        BranchTrees x = Tell.names(0, 9, -9, 0);
        Tell.row(x, AT_LEAST, 3, 1, 1);
        Tell.costs(x, 3, 1);
        Expect.is("run(300)", x.run(300), 1);
        Expect.is("COST", x.best(-1), 9);
        Expect.is("value of 0", x.best(0), 3);
        Expect.is("value of 1", x.best(1), 0);
    }

    private static void promise14Bound() {
        Expect.about("14: bound");
        BranchTrees x = Tell.names(0, 3);
        x.cost(0, 1);
        x.rule(0, 2);
        x.rule(2, 1);
        Tell.row(x, AT_LEAST, 1, 1);
        // 1 .. 3 is parted in 3 and 1 .. 2; 3 is the first PLAN, then 1 .. 2 is parted in 2 and 1.
        int[][] due = {{2, 1}, {2, 1}, {2, 1}, {2, 1}, {1, 1}};
        for (int[] one : due) {
            Expect.is("run(1)", x.run(1), one[0]);
            Expect.is("bound()", x.bound(), one[1]);
        }
        BranchTrees y = Tell.names(0, 7);
        y.cost(0, -3);
        y.rule(0, 1);
        y.run(1);
        Expect.is("the least of two LOWERS", y.bound(), -21);
    }

    private static void promise15Node() {
        Expect.about("15: node");
        BranchTrees x = Tell.names(1, 1, 0, 3);
        Tell.costs(x, 10, 2);
        Tell.row(x, AT_LEAST, 1, 0, 1);
        x.run(2);
        int[][] due = {
            {-1, -1, 0, 0, 1, 12, -2, 1, 0},
            {0, 1, 0, 2, 0, 12, -2, -2, 1},
            {0, 1, 1, 3, 4, 16, -2, -2, 1},
        };
        for (int i = 0; i < 3; i++) {
            for (int what = 0; what <= 8; what++) {
                Expect.is("node(" + i + ", " + what + ")", x.node(i, what), due[i][what]);
            }
        }
        BranchTrees closed = Tell.sameNames(3, 0, 2);
        closed.row(AT_MOST, 9);
        Tell.row(closed, EQUAL, 3, 2, 2, 2);
        closed.run(1);
        for (int i = 1; i <= 2; i++) {
            Expect.is("STATE of a closed one", closed.node(i, 4), 2);
            Expect.is("the row that closed it", closed.node(i, 6), 1);
        }
    }

    private static void promise16BoundOf() {
        Expect.about("16: boundOf");
        BranchTrees x = Tell.names(-7, 8, 2, 3);
        x.run(1);
        int[][] due = {{-7, 8}, {-7, 0}, {1, 8}};
        for (int i = 0; i < 3; i++) {
            Expect.is("l of " + i, x.boundOf(i, 0, 1), due[i][0]);
            Expect.is("u of " + i, x.boundOf(i, 0, 0), due[i][1]);
            Expect.is("l of the other", x.boundOf(i, 1, 1), 2);
            Expect.is("u of the other", x.boundOf(i, 1, 0), 3);
        }
    }

    private static void promise17Price() {
        Expect.about("17: price");
        BranchTrees x = Tell.sameNames(3, 0, 2);
        Tell.row(x, EQUAL, 3, 2, 2, 2);
        x.run(1);
        Expect.is("50 and 50 by 2", x.price(0), 800);
        x.restart();
        x.run(1);
        Expect.is("200 by 4", x.price(0), 800);
        Expect.is("of another", x.price(1), 0);
    }

    private static void promise18Check() {
        Expect.about("18: check");
        BranchTrees x = Tell.names(0, 3, 0, 3);
        Tell.row(x, AT_LEAST, 3, 1, 1);
        Tell.costs(x, 2, 3);
        for (int worked = 1; worked < 20 && x.run(1) == 2; worked++) {
            Expect.is("some open", x.check(), 0);
        }
        Expect.is("none open", x.check(), 1);
        Expect.is("best(-1)", x.best(-1), 6);
    }

    private static void promise19Count() {
        Expect.about("19: count");
        BranchTrees x = Tell.names(0, 9, 0, 9);
        Tell.row(x, AT_LEAST, 3, 1, 1);
        Tell.costs(x, 1, 1);
        x.order();
        x.rule(0, 2);
        x.run(2);
        int[] due = {2, 2, 1, 5, 3, 2, 0, 0, 0, 0};
        for (int what = 0; what <= 9; what++) {
            Expect.is("count(" + what + ")", x.count(what), due[what]);
        }
        x.run(300);
        int[] states = new int[5];
        for (int i = 0; i < x.count(3); i++) {
            states[x.node(i, 4)]++;
        }
        Expect.is("open", x.count(4), states[0]);
        Expect.is("STATE 2", x.count(7), states[2]);
        Expect.is("STATE 3", x.count(8), states[3]);
        Expect.is("STATE 4", x.count(9), states[4]);
        Expect.is("WORKED at", x.count(5), states[1] + states[3] + states[4]);
        Expect.is("a BEST", x.count(6), 1);
    }
}
