/** Each promise of the document by itself: ordinary calls, the edges it names, wrong inputs. */
public final class PromisesTest {
    private static final int NO_VALUE = -1_000;
    private static final int NO_COST = -1_000_000;
    private static final int[] FAR = {Integer.MIN_VALUE, Integer.MAX_VALUE};

    private PromisesTest() {
    }

    public static void main(String[] args) {
        promise1NewObject();
        promise2Name();
        promise3Row();
        promise3Senses();
        promise4Factor();
        promise5Cost();
        promise6Alike();
        promise7Order();
        promise7Room();
        promise8Picking();
        promise8Choosing();
        promise8Side();
        promise8Wrong();
        promise9Start();
        promise10Offer();
        promise11Run();
        promise11Full();
        promise11Narrowing();
        promise12Restart();
        promise13Best();
        promise14Bound();
        promise15Node();
        promise16BoundOf();
        promise17Price();
        promise18Check();
        promise19Count();
        toldAgain();
        refusedChangesNothing();
        Expect.end();
    }

    private static BranchTrees names(int... spans) {
        BranchTrees x = new BranchTrees();
        for (int i = 0; i + 1 < spans.length; i += 2) {
            x.name(spans[i], spans[i + 1]);
        }
        return x;
    }

    private static int row(BranchTrees x, int sense, int right, int... factors) {
        int row = x.row(sense, right);
        for (int name = 0; name < factors.length; name++) {
            x.factor(row, name, factors[name]);
        }
        return row;
    }

    private static void costs(BranchTrees x, int... factors) {
        for (int name = 0; name < factors.length; name++) {
            x.cost(name, factors[name]);
        }
    }

    private static void starts(BranchTrees x, int... values) {
        for (int name = 0; name < values.length; name++) {
            x.start(name, values[name]);
        }
    }

    private static void promise1NewObject() {
        BranchTrees x = new BranchTrees();
        for (int what = 0; what <= 9; what++) {
            Expect.is("1: count(" + what + ")", x.count(what), 0);
        }
        Expect.is("1: run(1)", x.run(1), BranchTrees.BAD);
        Expect.is("1: restart()", x.restart(), 0);
        Expect.is("1: best(-1)", x.best(-1), NO_COST);
        Expect.is("1: best(0)", x.best(0), NO_COST);
        Expect.is("1: bound()", x.bound(), NO_COST);
        Expect.is("1: node(0, 0)", x.node(0, 0), NO_COST);
        Expect.is("1: boundOf(0, 0, 0)", x.boundOf(0, 0, 0), NO_VALUE);
        Expect.is("1: price(0)", x.price(0), BranchTrees.BAD);
        Expect.is("1: check()", x.check(), BranchTrees.BAD);
        Expect.is("1: alike(0, 0)", x.alike(0, 0), BranchTrees.BAD);
        Expect.is("1: factor(0, 0, 0)", x.factor(0, 0, 0), NO_VALUE);
        Expect.is("1: cost(0, 0)", x.cost(0, 0), NO_VALUE);
        Expect.is("1: start(0, 0)", x.start(0, 0), NO_VALUE);
        Expect.is("1: order()", x.order(), 0);
        for (int what = 0; what <= 2; what++) {
            Expect.is("1: rule(" + what + ", 0)", x.rule(what, 0), 0);
        }
        BranchTrees other = names(0, 1);
        Expect.is("1: count(0) of another", other.count(0), 1);
        Expect.is("1: count(0) still", x.count(0), 0);
    }

    private static void promise2Name() {
        BranchTrees x = new BranchTrees();
        Expect.is("2: name(-50, 50)", x.name(-50, 50), 0);
        Expect.is("2: name(-51, 0)", x.name(-51, 0), BranchTrees.BAD);
        Expect.is("2: name(0, 51)", x.name(0, 51), BranchTrees.BAD);
        Expect.is("2: name(51, 51)", x.name(51, 51), BranchTrees.BAD);
        Expect.is("2: name(-51, -51)", x.name(-51, -51), BranchTrees.BAD);
        Expect.is("2: name(1, 0)", x.name(1, 0), BranchTrees.BAD);
        Expect.is("2: name(MIN, MAX)", x.name(FAR[0], FAR[1]), BranchTrees.BAD);
        Expect.is("2: name(MAX, MIN)", x.name(FAR[1], FAR[0]), BranchTrees.BAD);
        Expect.is("2: count(0)", x.count(0), 1);
        Expect.is("2: name(50, 50)", x.name(50, 50), 1);
        Expect.is("2: name(-50, -50)", x.name(-50, -50), 2);
        for (int number = 3; number < 8; number++) {
            Expect.is("2: name(1, 2)", x.name(1, 2), number);
        }
        Expect.is("2: name(1, 2) of 9", x.name(1, 2), BranchTrees.FULL);
        Expect.is("2: name(2, 1) of 9", x.name(2, 1), BranchTrees.BAD);
        Expect.is("2: count(0) of 8", x.count(0), 8);
        x.run(1);
        Expect.is("2: low of 0", x.boundOf(0, 0, 1), -50);
        Expect.is("2: high of 0", x.boundOf(0, 0, 0), 50);
        Expect.is("2: low of 7", x.boundOf(0, 7, 1), 1);
        Expect.is("2: high of 7", x.boundOf(0, 7, 0), 2);
    }

    private static void promise3Row() {
        BranchTrees x = names(0, 3);
        Expect.is("3: row(-1, 0)", x.row(-1, 0), BranchTrees.BAD);
        Expect.is("3: row(3, 0)", x.row(3, 0), BranchTrees.BAD);
        Expect.is("3: row(0, 1001)", x.row(0, 1_001), BranchTrees.BAD);
        Expect.is("3: row(0, -1001)", x.row(0, -1_001), BranchTrees.BAD);
        Expect.is("3: row(MIN, 0)", x.row(FAR[0], 0), BranchTrees.BAD);
        Expect.is("3: row(0, MIN)", x.row(0, FAR[0]), BranchTrees.BAD);
        Expect.is("3: row(0, MAX)", x.row(0, FAR[1]), BranchTrees.BAD);
        Expect.is("3: row(0, 1000)", x.row(0, 1_000), 0);
        Expect.is("3: row(1, -1000)", x.row(1, -1_000), 1);
        Expect.is("3: row(2, 0)", x.row(2, 0), 2);
        for (int number = 3; number < 16; number++) {
            Expect.is("3: row(0, 5)", x.row(0, 5), number);
        }
        Expect.is("3: row(0, 5) of 17", x.row(0, 5), BranchTrees.FULL);
        Expect.is("3: row(3, 5) of 17", x.row(3, 5), BranchTrees.BAD);
        Expect.is("3: count(1)", x.count(1), 16);
        Expect.is("3: count(2)", x.count(2), 0);
        Expect.is("3: run(9)", x.run(9), 1);
    }

    private static void promise3Senses() {
        int[][] bounds = {{-9, 4}, {4, 9}, {4, 4}};
        for (int sense = 0; sense <= 2; sense++) {
            BranchTrees x = names(-9, 9);
            row(x, sense, 4, 1);
            x.run(1);
            Expect.is("3: l by sense " + sense, x.boundOf(0, 0, 1), bounds[sense][0]);
            Expect.is("3: u by sense " + sense, x.boundOf(0, 0, 0), bounds[sense][1]);
        }
        // A row without factors holds or does not, whatever the values are.
        int[][] empty = {{-1, 0}, {1, 0}, {1, -1}};
        for (int sense = 0; sense <= 2; sense++) {
            for (int right : empty[sense]) {
                BranchTrees x = names(0, 0);
                x.row(sense, right);
                int due = right == 0 ? 1 : 0;
                Expect.is("3: run, empty row " + sense + " " + right, x.run(9), due);
            }
        }
    }

    private static void promise4Factor() {
        BranchTrees x = names(0, 9, 0, 9);
        x.row(0, 20);
        Expect.is("4: factor(0, 0, 20)", x.factor(0, 0, 20), 0);
        Expect.is("4: factor(0, 0, -20)", x.factor(0, 0, -20), 20);
        Expect.is("4: factor(0, 0, 21)", x.factor(0, 0, 21), NO_VALUE);
        Expect.is("4: factor(0, 0, -21)", x.factor(0, 0, -21), NO_VALUE);
        Expect.is("4: factor(1, 0, 1)", x.factor(1, 0, 1), NO_VALUE);
        Expect.is("4: factor(-1, 0, 1)", x.factor(-1, 0, 1), NO_VALUE);
        Expect.is("4: factor(0, 2, 1)", x.factor(0, 2, 1), NO_VALUE);
        Expect.is("4: factor(0, -1, 1)", x.factor(0, -1, 1), NO_VALUE);
        for (int far : FAR) {
            Expect.is("4: far row", x.factor(far, 0, 1), NO_VALUE);
            Expect.is("4: far name", x.factor(0, far, 1), NO_VALUE);
            Expect.is("4: far factor", x.factor(0, 0, far), NO_VALUE);
        }
        Expect.is("4: factor(0, 0, 7)", x.factor(0, 0, 7), -20);
        Expect.is("4: factor(0, 1, 0)", x.factor(0, 1, 0), 0);
        x.run(1);
        Expect.is("4: u of 0", x.boundOf(0, 0, 0), 2);
        Expect.is("4: u of 1", x.boundOf(0, 1, 0), 9);
        BranchTrees y = names(0, 9, 0, 9);
        y.order();
        Expect.is("4: factor of ORDERS", y.factor(0, 1, 5), -1);
        Expect.is("4: factor of ORDERS again", y.factor(0, 1, 5), 5);
    }

    private static void promise5Cost() {
        BranchTrees x = names(-2, 3, 1, 4);
        Expect.is("5: cost(0, 20)", x.cost(0, 20), 0);
        Expect.is("5: cost(0, -20)", x.cost(0, -20), 20);
        Expect.is("5: cost(0, 21)", x.cost(0, 21), NO_VALUE);
        Expect.is("5: cost(0, -21)", x.cost(0, -21), NO_VALUE);
        Expect.is("5: cost(2, 1)", x.cost(2, 1), NO_VALUE);
        Expect.is("5: cost(-1, 1)", x.cost(-1, 1), NO_VALUE);
        for (int far : FAR) {
            Expect.is("5: far name", x.cost(far, 1), NO_VALUE);
            Expect.is("5: far factor", x.cost(0, far), NO_VALUE);
        }
        Expect.is("5: cost(0, -5)", x.cost(0, -5), -20);
        Expect.is("5: cost(1, 2)", x.cost(1, 2), 0);
        x.run(1);
        Expect.is("5: LOWER", x.node(0, 5), -15 + 2);
        Expect.is("5: run", x.run(300), 1);
        Expect.is("5: best(-1)", x.best(-1), -13);
    }

    private static void promise6Alike() {
        BranchTrees x = names(0, 5, 0, 5, 0, 6, 1, 5, 0, 5);
        costs(x, 3, 3, 3, 3, -3);
        Expect.is("6: alike(0, 1)", x.alike(0, 1), 1);
        Expect.is("6: alike(1, 0)", x.alike(1, 0), 1);
        Expect.is("6: alike(3, 3)", x.alike(3, 3), 1);
        Expect.is("6: another high", x.alike(0, 2), 0);
        Expect.is("6: another low", x.alike(0, 3), 0);
        Expect.is("6: another cost", x.alike(0, 4), 0);
        Expect.is("6: alike(0, 5)", x.alike(0, 5), BranchTrees.BAD);
        Expect.is("6: alike(5, 0)", x.alike(5, 0), BranchTrees.BAD);
        Expect.is("6: alike(-1, 0)", x.alike(-1, 0), BranchTrees.BAD);
        for (int far : FAR) {
            Expect.is("6: alike(far, far)", x.alike(far, far), BranchTrees.BAD);
        }
        row(x, 0, 4, 1, 2);
        Expect.is("6: one row", x.alike(0, 1), 0);
        row(x, 0, 4, 2, 1);
        Expect.is("6: both rows", x.alike(0, 1), 1);
        row(x, 0, 4, 1, 2);
        Expect.is("6: one row twice", x.alike(0, 1), 0);
        row(x, 0, 5, 2, 1);
        Expect.is("6: another right side", x.alike(0, 1), 0);
        row(x, 0, 5, 1, 2);
        row(x, 1, 4, 2, 1);
        Expect.is("6: another sense", x.alike(0, 1), 0);
        row(x, 1, 4, 1, 2);
        row(x, 0, 4, 2, 1);
        Expect.is("6: all rows", x.alike(0, 1), 1);
        row(x, 0, 4, 1, 2, 7);
        row(x, 0, 4, 2, 1, 8);
        Expect.is("6: another factor of a third", x.alike(0, 1), 0);
        BranchTrees y = names(0, 5, 0, 5, 0, 5);
        row(y, 2, 4, 7, 1, 2);
        row(y, 2, 4, 8, 2, 1);
        Expect.is("6: another factor of the first", y.alike(1, 2), 0);
        y.factor(1, 0, 7);
        Expect.is("6: the same factor of the first", y.alike(1, 2), 1);
        BranchTrees z = names(0, 5, 0, 5);
        row(z, 0, 4, 1, 0);
        row(z, 1, -4, 0, -1);
        Expect.is("6: rows that say the same are not the same", z.alike(0, 1), 0);
    }

    private static void promise7Order() {
        BranchTrees x = names(0, 4, 0, 5, 0, 4, 0, 5, 0, 4);
        x.run(1);
        Expect.is("7: order()", x.order(), 3);
        Expect.is("7: count(1)", x.count(1), 3);
        Expect.is("7: count(2)", x.count(2), 3);
        Expect.is("7: no TREE", x.bound(), NO_COST);
        int[][] pairs = {{0, 2}, {1, 3}, {2, 4}};
        for (int row = 0; row < 3; row++) {
            for (int name = 0; name < 5; name++) {
                int due = name == pairs[row][0] ? 1 : name == pairs[row][1] ? -1 : 0;
                Expect.is("7: factor " + row + " " + name, x.factor(row, name, due), due);
            }
        }
        x.run(1);
        Expect.is("7: order() again", x.order(), BranchTrees.NONE);
        Expect.is("7: a TREE still", x.count(3), 3);
        Expect.is("7: alike in spite of ORDERS", x.alike(0, 4), 1);
        x.factor(0, 3, 9);
        Expect.is("7: alike in spite of changed ORDERS", x.alike(1, 3), 1);
        row(x, 1, 2, 1);
        Expect.is("7: a later ROW is no ORDER", x.alike(0, 2), 0);
        Expect.is("7: count(2) still", x.count(2), 3);
        BranchTrees y = names(0, 9, 0, 9);
        row(y, 1, 5, 1, 1);
        row(y, 0, 3, 0, 0);
        y.order();
        starts(y, 3, 2);
        Expect.is("7: above", y.offer(), 0);
        starts(y, 3, 3);
        Expect.is("7: not above", y.offer(), 1);
    }

    private static void promise7Room() {
        for (int rows = 13; rows <= 16; rows++) {
            BranchTrees x = names(0, 4, 0, 4, 0, 4, 0, 4);
            for (int row = 0; row < rows; row++) {
                x.row(0, 5);
            }
            Expect.is("7: order() after " + rows, x.order(), 16 - rows);
            Expect.is("7: count(1) after " + rows, x.count(1), 16);
            Expect.is("7: again after " + rows, x.order(), rows == 16 ? 0 : BranchTrees.NONE);
        }
        BranchTrees x = names(0, 1, 0, 2);
        x.run(1);
        Expect.is("7: none alike", x.order(), 0);
        Expect.is("7: none came, a TREE still", x.count(3), 3);
        x.name(0, 2);
        Expect.is("7: one now", x.order(), 1);
    }

    /** The NODE that is worked at after the root was parted. */
    private static int secondWorked(int picking, int side, int cost) {
        BranchTrees x = names(0, 7, 0, 7);
        costs(x, cost, 0);
        x.rule(0, picking);
        x.rule(2, side);
        x.run(2);
        return x.node(1, 4) == 1 ? 1 : x.node(2, 4) == 1 ? 2 : -1;
    }

    private static void promise8Picking() {
        Expect.is("8: greatest number", secondWorked(0, 0, 1), 2);
        Expect.is("8: greatest number, other side", secondWorked(0, 1, 1), 2);
        Expect.is("8: least LOWER", secondWorked(1, 0, 1), 1);
        Expect.is("8: least LOWER, other side", secondWorked(1, 1, 1), 2);
        Expect.is("8: like LOWER", secondWorked(1, 0, 0), 1);
        Expect.is("8: least number", secondWorked(2, 0, 1), 1);
        Expect.is("8: least number, other side", secondWorked(2, 1, 1), 1);
    }

    private static BranchTrees choosing(int choosing) {
        BranchTrees x = names(2, 2, 0, 9, 0, 3, 0, 5, 1, 4);
        costs(x, 20, 1, -5, 5, 2);
        x.rule(1, choosing);
        x.run(1);
        return x;
    }

    private static void promise8Choosing() {
        Expect.is("8: the first", choosing(0).node(0, 7), 1);
        Expect.is("8: least u - l", choosing(1).node(0, 7), 2);
        Expect.is("8: greatest PRICE, all like", choosing(2).node(0, 7), 1);
        Expect.is("8: greatest factor of THE COST", choosing(3).node(0, 7), 2);
        BranchTrees x = choosing(3);
        Expect.is("8: PRICE learned", x.price(2), 80);
        x.restart();
        x.rule(1, 2);
        x.run(1);
        Expect.is("8: greatest PRICE", x.node(0, 7), 2);
    }

    private static void promise8Side() {
        for (int side = 0; side <= 1; side++) {
            BranchTrees x = names(-4, 3);
            Expect.is("8: side before", x.rule(2, side), 0);
            x.run(1);
            Expect.is("8: side of 1", x.node(1, 2), side);
            Expect.is("8: side of 2", x.node(2, 2), 1 - side);
            Expect.is("8: v of 1", x.node(1, 3), -1 + side);
            Expect.is("8: v of 2", x.node(2, 3), -side);
            Expect.is("8: side after", x.rule(2, 0), side);
        }
    }

    private static void promise8Wrong() {
        BranchTrees x = names(0, 7);
        int[] kinds = {3, 4, 2};
        for (int what = 0; what < 3; what++) {
            Expect.is("8: v too great", x.rule(what, kinds[what]), BranchTrees.BAD);
            Expect.is("8: v too small", x.rule(what, -1), BranchTrees.BAD);
            for (int far : FAR) {
                Expect.is("8: v far", x.rule(what, far), BranchTrees.BAD);
                Expect.is("8: what far", x.rule(far, 0), BranchTrees.BAD);
            }
            Expect.is("8: at first", x.rule(what, kinds[what] - 1), 0);
            Expect.is("8: then", x.rule(what, 1), kinds[what] - 1);
        }
        Expect.is("8: rule(3, 0)", x.rule(3, 0), BranchTrees.BAD);
        Expect.is("8: rule(-1, 0)", x.rule(-1, 0), BranchTrees.BAD);
        x.run(1);
        x.rule(1, 2);
        Expect.is("8: a TREE still", x.count(3), 3);
        x.name(0, 0);
        Expect.is("8: rules stay", x.rule(1, 0), 2);
    }

    private static void promise9Start() {
        BranchTrees x = names(0, 3);
        Expect.is("9: start(0, 50)", x.start(0, 50), 0);
        Expect.is("9: start(0, -50)", x.start(0, -50), 50);
        Expect.is("9: start(0, 51)", x.start(0, 51), NO_VALUE);
        Expect.is("9: start(0, -51)", x.start(0, -51), NO_VALUE);
        Expect.is("9: start(1, 0)", x.start(1, 0), NO_VALUE);
        Expect.is("9: start(-1, 0)", x.start(-1, 0), NO_VALUE);
        for (int far : FAR) {
            Expect.is("9: far name", x.start(far, 0), NO_VALUE);
            Expect.is("9: far value", x.start(0, far), NO_VALUE);
        }
        x.run(1);
        Expect.is("9: start(0, 2)", x.start(0, 2), -50);
        Expect.is("9: a TREE still", x.count(3), 3);
        Expect.is("9: a new NAME", x.name(4, 5), 1);
        Expect.is("9: start(1, 4)", x.start(1, 4), 0);
        Expect.is("9: START stays", x.start(0, 2), 2);
    }

    private static void promise10Offer() {
        BranchTrees x = names(1, 9, 0, 9);
        row(x, 0, 12, 1, 2);
        row(x, 1, 3, 1, 0);
        row(x, 2, 6, 1, 1);
        costs(x, 2, 1);
        Expect.is("10: not in its span", x.offer(), 0);
        starts(x, 10, -4);
        Expect.is("10: above its span", x.offer(), 0);
        starts(x, 2, 4);
        Expect.is("10: not at least", x.offer(), 0);
        starts(x, 5, 4);
        Expect.is("10: not at most", x.offer(), 0);
        starts(x, 4, 3);
        Expect.is("10: not equal", x.offer(), 0);
        starts(x, 4, 1);
        Expect.is("10: not equal, below", x.offer(), 0);
        Expect.is("10: no BEST", x.count(6), 0);
        starts(x, 4, 2);
        Expect.is("10: a PLAN", x.offer(), 1);
        Expect.is("10: its COST", x.best(-1), 10);
        Expect.is("10: the same again", x.offer(), 0);
        starts(x, 5, 1);
        Expect.is("10: a greater COST", x.offer(), 0);
        Expect.is("10: value still", x.best(0), 4);
        starts(x, 3, 3);
        Expect.is("10: a lesser COST", x.offer(), 1);
        starts(x, 9, 9);
        Expect.is("10: value", x.best(0), 3);
        Expect.is("10: value", x.best(1), 3);
        Expect.is("10: COST", x.best(-1), 9);
        BranchTrees edge = names(-3, 4);
        starts(edge, -4);
        Expect.is("10: below the low end", edge.offer(), 0);
        starts(edge, 5);
        Expect.is("10: above the high end", edge.offer(), 0);
        starts(edge, 4);
        Expect.is("10: the high end", edge.offer(), 1);
        edge.cost(0, 1);
        starts(edge, -3);
        Expect.is("10: the low end", edge.offer(), 1);
        // Without NAMES there is one way to give each a value, and it keeps a row that 0 keeps.
        BranchTrees empty = new BranchTrees();
        empty.row(1, 1);
        Expect.is("10: no NAMES, a row that is not kept", empty.offer(), 0);
        BranchTrees bare = new BranchTrees();
        bare.row(0, 0);
        Expect.is("10: no NAMES, a row that is kept", bare.offer(), 1);
        Expect.is("10: no NAMES, COST", bare.best(-1), 0);
        BranchTrees y = names(0, 9);
        y.cost(0, 1);
        starts(y, 5);
        y.run(1);
        Expect.is("10: with a TREE", y.offer(), 1);
        Expect.is("10: a TREE still", y.count(3), 3);
        y.restart();
        y.run(1);
        Expect.is("10: narrowed by it", y.boundOf(0, 0, 0), 4);
    }

    private static void promise11Run() {
        BranchTrees x = names(0, 3);
        x.cost(0, 1);
        x.rule(0, 2);
        int[] wrong = {0, -1, 301, FAR[0], FAR[1]};
        for (int work : wrong) {
            Expect.is("11: run(" + work + ")", x.run(work), BranchTrees.BAD);
        }
        Expect.is("11: no TREE yet", x.count(3), 0);
        int[] nodes = {3, 5, 7, 7, 7, 7, 7};
        for (int worked = 1; worked <= 7; worked++) {
            Expect.is("11: run(1)", x.run(1), worked == 7 ? 1 : 2);
            Expect.is("11: NODES", x.count(3), nodes[worked - 1]);
            Expect.is("11: WORKED", x.count(5), worked);
            Expect.is("11: a BEST", x.count(6), worked >= 4 ? 1 : 0);
        }
        int[] states = {1, 1, 1, 4, 3, 3, 3};
        for (int i = 0; i < 7; i++) {
            Expect.is("11: STATE of " + i, x.node(i, 4), states[i]);
        }
        Expect.is("11: run(300)", x.run(300), 1);
        Expect.is("11: nothing WORKED", x.count(5), 7);
        BranchTrees y = names(0, 2, 0, 2, 0, 2);
        row(y, 2, 3, 2, 2, 2);
        Expect.is("11: none", y.run(300), 0);
        Expect.is("11: none still", y.run(1), 0);
        Expect.is("11: none WORKED but the root", y.count(5), 1);
    }

    private static void promise11Full() {
        BranchTrees x = names(-50, 50, -50, 50, -50, 50, -50, 50, -50, 50, -50, 50, -50, 50, -50, 50);
        x.rule(0, 2);
        Expect.is("11: run(299)", x.run(299), 2);
        Expect.is("11: NODES", x.count(3), 599);
        Expect.is("11: run(1)", x.run(1), BranchTrees.FULL);
        Expect.is("11: NODES still", x.count(3), 599);
        Expect.is("11: open", x.count(4), 300);
        Expect.is("11: WORKED", x.count(5), 299);
        Expect.is("11: it stays open", x.node(299, 4), 0);
        Expect.is("11: parted by none", x.node(299, 7), BranchTrees.NONE);
        Expect.is("11: no NODE 599", x.node(599, 4), NO_COST);
        Expect.is("11: check()", x.check(), 0);
        x.offer();
        Expect.is("11: closed without room", x.run(299), 2);
        Expect.is("11: the last", x.run(300), 1);
        Expect.is("11: closed by the COST", x.count(8), 300);
        Expect.is("11: check() now", x.check(), 1);
        Expect.is("11: restart()", x.restart(), 599);
        BranchTrees y = names(-50, 50, -50, 50, -50, 50, -50, 50, -50, 50, -50, 50, -50, 50, -50, 50);
        y.rule(0, 2);
        Expect.is("11: run(300) at once", y.run(300), BranchTrees.FULL);
        Expect.is("11: what was done before stays", y.count(5), 299);
    }

    private static void promise11Narrowing() {
        BranchTrees x = names(0, 10, 0, 10);
        row(x, 0, 11, 3, 2);
        row(x, 1, 1, -3, 2);
        costs(x, -1, -1);
        x.run(1);
        int[][] due = {{0, 3}, {1, 5}};
        for (int name = 0; name < 2; name++) {
            Expect.is("11: l of " + name, x.boundOf(0, name, 1), due[name][0]);
            Expect.is("11: u of " + name, x.boundOf(0, name, 0), due[name][1]);
        }
        // Several rounds, the at most before the at least, up to the row that closes it.
        BranchTrees y = names(0, 3, 0, 3);
        row(y, 2, 1, 2, -2);
        costs(y, 5, -7);
        Expect.is("11: closed", y.run(1), 0);
        Expect.is("11: closed by", y.node(0, 6), 0);
        Expect.is("11: l as far as it came", y.boundOf(0, 0, 1), 2);
        Expect.is("11: u as far as it came", y.boundOf(0, 0, 0), 2);
        Expect.is("11: l as far as it came", y.boundOf(0, 1, 1), 1);
        Expect.is("11: u as far as it came", y.boundOf(0, 1, 0), 1);
        Expect.is("11: LOWER as far as it came", y.node(0, 5), 3);
        // Quotients below 0: - 7 / 2 is - 4 downwards and - 3 upwards.
        BranchTrees z = names(-50, 50, -50, 50);
        row(z, 0, -7, 2, 0);
        row(z, 1, -7, 0, 2);
        z.run(1);
        Expect.is("11: downwards", z.boundOf(0, 0, 0), -4);
        Expect.is("11: upwards", z.boundOf(0, 1, 1), -3);
        // m is downwards, too.
        Expect.is("11: m", z.node(1, 3), -27);
    }

    private static void promise12Restart() {
        BranchTrees x = names(0, 9);
        x.cost(0, 2);
        x.rule(0, 1);
        x.run(300);
        int had = x.count(3);
        int price = x.price(0);
        Expect.holds("12: a PRICE", price > 0);
        Expect.is("12: restart()", x.restart(), had);
        Expect.is("12: restart() again", x.restart(), 0);
        Expect.is("12: bound()", x.bound(), NO_COST);
        Expect.is("12: check()", x.check(), BranchTrees.BAD);
        Expect.is("12: node(0, 0)", x.node(0, 0), NO_COST);
        Expect.is("12: boundOf(0, 0, 0)", x.boundOf(0, 0, 0), NO_VALUE);
        for (int what : new int[] {3, 4, 5, 7, 8, 9}) {
            Expect.is("12: count(" + what + ")", x.count(what), 0);
        }
        Expect.is("12: best(-1)", x.best(-1), 0);
        Expect.is("12: count(6)", x.count(6), 1);
        Expect.is("12: price(0)", x.price(0), price);
        Expect.is("12: run(1)", x.run(1), 1);
        Expect.is("12: closed by the BEST", x.node(0, 6), 16);
        Expect.is("12: restart() of one", x.restart(), 1);
    }

    private static void promise13Best() {
        BranchTrees x = names(0, 9, -9, 0);
        row(x, 1, 3, 1, 1);
        costs(x, 3, 1);
        Expect.is("13: none yet", x.best(0), NO_COST);
        Expect.is("13: no COST yet", x.best(-1), NO_COST);
        Expect.is("13: run", x.run(300), 1);
        Expect.is("13: COST", x.best(-1), 9);
        Expect.is("13: value of 0", x.best(0), 3);
        Expect.is("13: value of 1", x.best(1), 0);
        Expect.is("13: best(2)", x.best(2), NO_COST);
        Expect.is("13: best(-2)", x.best(-2), NO_COST);
        for (int far : FAR) {
            Expect.is("13: far", x.best(far), NO_COST);
        }
        // A PLAN of the same COST does not come in its place.
        BranchTrees y = names(0, 1, 0, 1);
        row(y, 2, 1, 1, 1);
        y.run(300);
        Expect.is("13: the first found", y.best(0), 1);
        starts(y, 0, 1);
        Expect.is("13: like COST", y.offer(), 0);
        Expect.is("13: the first found still", y.best(0), 1);
    }

    private static void promise14Bound() {
        BranchTrees x = names(0, 7);
        x.cost(0, 1);
        row(x, 1, 1, 1);
        x.rule(2, 1);
        Expect.is("14: no TREE", x.bound(), NO_COST);
        x.run(1);
        Expect.is("14: open, no BEST", x.bound(), 1);
        x.rule(0, 2);
        x.run(1);
        Expect.is("14: still", x.bound(), 1);
        x.start(0, 7);
        x.offer();
        Expect.is("14: open, with a BEST above", x.bound(), 1);
        x.start(0, 1);
        x.offer();
        Expect.is("14: like the BEST", x.bound(), 1);
        x.run(300);
        Expect.is("14: none open", x.bound(), 1);
        // The first PLAN is 3, the greatest number being picked; 0 .. 1 and 2 are open then.
        BranchTrees z = names(0, 3);
        z.cost(0, 1);
        z.run(3);
        Expect.is("14: less than the BEST", z.bound(), 0);
        Expect.is("14: the BEST", z.best(-1), 3);
        BranchTrees none = names(0, 3);
        none.row(0, -1);
        none.run(1);
        Expect.is("14: no PLAN at all", none.bound(), 1_000_000);
        // Only a greater LOWER is open when the BEST is offered.
        BranchTrees above = names(0, 3);
        above.cost(0, 1);
        above.rule(2, 1);
        above.run(1);
        above.offer();
        above.run(1);
        Expect.is("14: state of the lesser half", above.node(2, 4), 3);
        Expect.is("14: not above the BEST", above.bound(), 0);
        Expect.is("14: though LOWER is", above.node(1, 5), 2);
    }

    private static void promise15Node() {
        BranchTrees x = names(1, 1, 0, 3);
        costs(x, 10, 2);
        row(x, 1, 1, 0, 1);
        x.run(2);
        int[][] due = {
            {-1, -1, 0, 0, 1, 12, -2, 1, 0},
            {0, 1, 0, 2, 0, 12, -2, -2, 1},
            {0, 1, 1, 3, 4, 16, -2, -2, 1},
        };
        for (int i = 0; i < 3; i++) {
            for (int what = 0; what <= 8; what++) {
                Expect.is("15: node(" + i + ", " + what + ")", x.node(i, what), due[i][what]);
            }
        }
        Expect.is("15: node(3, 0)", x.node(3, 0), NO_COST);
        Expect.is("15: node(-1, 0)", x.node(-1, 0), NO_COST);
        Expect.is("15: node(0, 9)", x.node(0, 9), NO_COST);
        Expect.is("15: node(0, -1)", x.node(0, -1), NO_COST);
        for (int far : FAR) {
            Expect.is("15: far number", x.node(far, 0), NO_COST);
            Expect.is("15: far what", x.node(0, far), NO_COST);
        }
        x.run(1);
        Expect.is("15: deep", x.node(4, 8), 2);
        Expect.is("15: parent", x.node(4, 0), 1);
        x.restart();
        x.run(1);
        Expect.is("15: a new TREE", x.node(0, 7), 1);
        Expect.is("15: of three", x.node(3, 0), NO_COST);
        BranchTrees closed = names(0, 2, 0, 2, 0, 2);
        closed.row(0, 9);
        row(closed, 2, 3, 2, 2, 2);
        closed.run(1);
        Expect.is("15: closed", closed.node(1, 4), 2);
        Expect.is("15: the row that closed it", closed.node(1, 6), 1);
        Expect.is("15: the row that closed it", closed.node(2, 6), 1);
        Expect.is("15: none closed the root", closed.node(0, 6), BranchTrees.NONE);
    }

    private static void promise16BoundOf() {
        BranchTrees x = names(-7, 8, 2, 3);
        x.run(1);
        int[][] due = {{-7, 8}, {-7, 0}, {1, 8}};
        for (int i = 0; i < 3; i++) {
            Expect.is("16: l of " + i, x.boundOf(i, 0, 1), due[i][0]);
            Expect.is("16: u of " + i, x.boundOf(i, 0, 0), due[i][1]);
            Expect.is("16: l of the other", x.boundOf(i, 1, 1), 2);
            Expect.is("16: u of the other", x.boundOf(i, 1, 0), 3);
        }
        Expect.is("16: boundOf(3, 0, 0)", x.boundOf(3, 0, 0), NO_VALUE);
        Expect.is("16: boundOf(-1, 0, 0)", x.boundOf(-1, 0, 0), NO_VALUE);
        Expect.is("16: boundOf(0, 2, 0)", x.boundOf(0, 2, 0), NO_VALUE);
        Expect.is("16: boundOf(0, -1, 0)", x.boundOf(0, -1, 0), NO_VALUE);
        Expect.is("16: boundOf(0, 0, 2)", x.boundOf(0, 0, 2), NO_VALUE);
        Expect.is("16: boundOf(0, 0, -1)", x.boundOf(0, 0, -1), NO_VALUE);
        for (int far : FAR) {
            Expect.is("16: far number", x.boundOf(far, 0, 0), NO_VALUE);
            Expect.is("16: far name", x.boundOf(0, far, 0), NO_VALUE);
            Expect.is("16: far side", x.boundOf(0, 0, far), NO_VALUE);
        }
    }

    private static void promise17Price() {
        BranchTrees x = names(0, 9, 0, 9);
        costs(x, 1, 1);
        Expect.is("17: at first", x.price(0), 0);
        Expect.is("17: price(2)", x.price(2), BranchTrees.BAD);
        Expect.is("17: price(-1)", x.price(-1), BranchTrees.BAD);
        for (int far : FAR) {
            Expect.is("17: far", x.price(far), BranchTrees.BAD);
        }
        x.rule(0, 2);
        x.run(1);
        Expect.is("17: 0 and 5 by 2", x.price(0), 40);
        Expect.is("17: of the other", x.price(1), 0);
        x.run(1);
        Expect.is("17: and 0 and 3 by 4", x.price(0), 32);
        x.run(1);
        Expect.is("17: and 0 and 3 by 6", x.price(0), 29);
        BranchTrees closed = names(0, 2, 0, 2, 0, 2);
        row(closed, 2, 3, 2, 2, 2);
        closed.run(1);
        Expect.is("17: 50 and 50 by 2", closed.price(0), 800);
        closed.restart();
        Expect.is("17: they stay", closed.price(0), 800);
        closed.run(1);
        Expect.is("17: 200 by 4", closed.price(0), 800);
        closed.cost(0, 0);
        Expect.is("17: they go", closed.price(0), 0);
    }

    private static void promise18Check() {
        BranchTrees x = names(0, 3, 0, 3);
        row(x, 1, 3, 1, 1);
        costs(x, 2, 3);
        Expect.is("18: no TREE", x.check(), BranchTrees.BAD);
        for (int worked = 1; worked < 20 && x.run(1) == 2; worked++) {
            Expect.is("18: some open", x.check(), 0);
        }
        Expect.is("18: none open", x.check(), 1);
        Expect.is("18: best(-1)", x.best(-1), 6);
        BranchTrees y = names(0, 2, 0, 2, 0, 2);
        row(y, 2, 3, 2, 2, 2);
        y.run(1);
        Expect.is("18: without a PLAN", y.check(), 1);
        // A PLAN that was found later closes what an earlier one did.
        BranchTrees z = names(0, 9);
        z.cost(0, 1);
        z.run(300);
        Expect.is("18: after several PLANS", z.check(), 1);
        Expect.holds("18: there were several", z.count(9) > 1);
        Expect.is("18: checked twice", z.check(), 1);
    }

    private static void promise19Count() {
        BranchTrees x = names(0, 9, 0, 9);
        row(x, 1, 3, 1, 1);
        costs(x, 1, 1);
        x.order();
        x.rule(0, 2);
        x.run(2);
        int[] before = {2, 2, 1, 5, 3, 2, 0, 0, 0, 0};
        for (int what = 0; what <= 9; what++) {
            Expect.is("19: count(" + what + ")", x.count(what), before[what]);
        }
        x.run(300);
        int[] states = new int[5];
        for (int i = 0; i < x.count(3); i++) {
            states[x.node(i, 4)]++;
        }
        Expect.is("19: open", x.count(4), states[0]);
        Expect.is("19: STATE 2", x.count(7), states[2]);
        Expect.is("19: STATE 3", x.count(8), states[3]);
        Expect.is("19: STATE 4", x.count(9), states[4]);
        Expect.is("19: WORKED", x.count(5), states[1] + states[3] + states[4]);
        Expect.is("19: a BEST", x.count(6), 1);
        Expect.is("19: count(10)", x.count(10), BranchTrees.BAD);
        Expect.is("19: count(-1)", x.count(-1), BranchTrees.BAD);
        for (int far : FAR) {
            Expect.is("19: far", x.count(far), BranchTrees.BAD);
        }
    }

    private static BranchTrees searched() {
        BranchTrees x = names(0, 9, 0, 9);
        row(x, 1, 3, 1, 1);
        costs(x, 1, 2);
        x.run(300);
        return x;
    }

    private static void toldAgain() {
        for (int call = 0; call < 5; call++) {
            BranchTrees x = searched();
            Expect.holds("told: a TREE before", x.count(3) > 0 && x.count(6) == 1 && x.price(0) > 0);
            switch (call) {
                case 0: x.name(0, 9); break;
                case 1: x.row(1, 3); break;
                case 2: x.factor(0, 0, 1); break;
                case 3: x.cost(1, 2); break;
                default:
                    x.cost(1, 1);
                    x.run(300);
                    x.order();
            }
            Expect.is("told " + call + ": no TREE", x.count(3), 0);
            Expect.is("told " + call + ": none WORKED", x.count(5), 0);
            Expect.is("told " + call + ": no bound", x.bound(), NO_COST);
            Expect.is("told " + call + ": no BEST", x.count(6), 0);
            Expect.is("told " + call + ": no COST", x.best(-1), NO_COST);
            Expect.is("told " + call + ": no PRICE", x.price(0), 0);
        }
    }

    private static void refusedChangesNothing() {
        BranchTrees x = searched();
        int nodes = x.count(3);
        int price = x.price(0);
        x.name(5, 4);
        x.row(3, 0);
        x.factor(1, 0, 1);
        x.factor(0, 0, 21);
        x.cost(2, 1);
        x.cost(0, 21);
        x.start(0, 51);
        x.rule(0, 3);
        x.run(301);
        x.order();
        Expect.is("refused: NODES", x.count(3), nodes);
        Expect.is("refused: BEST", x.best(-1), 3);
        Expect.is("refused: PRICE", x.price(0), price);
        Expect.is("refused: START", x.start(0, 0), 0);
        Expect.is("refused: rule", x.rule(0, 0), 0);
        Expect.is("refused: factor", x.factor(0, 0, 1), 1);
        BranchTrees full = names(0, 1, 0, 1, 0, 1, 0, 1, 0, 1, 0, 1, 0, 1, 0, 1);
        for (int row = 0; row < 16; row++) {
            full.row(0, 9);
        }
        full.run(300);
        int had = full.count(3);
        Expect.is("refused: a NAME", full.name(0, 1), BranchTrees.FULL);
        Expect.is("refused: a ROW", full.row(0, 9), BranchTrees.FULL);
        Expect.is("refused: ORDERS", full.order(), 0);
        Expect.is("refused: NODES of a full one", full.count(3), had);
    }
}
