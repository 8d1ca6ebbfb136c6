/** Short ways to tell a problem. */
final class Tell {
    static final int BAD = BranchTrees.BAD;
    static final int NONE = BranchTrees.NONE;
    static final int FULL = BranchTrees.FULL;
    /** BAD where - 1 can be an answer: of values and factors, and of costs and NODES. */
    static final int BAD_VALUE = -1_000;
    static final int BAD_COST = -1_000_000;

    private Tell() {
    }

    static BranchTrees names(int... spans) {
        BranchTrees x = new BranchTrees();
        for (int i = 0; i + 1 < spans.length; i += 2) {
            x.name(spans[i], spans[i + 1]);
        }
        return x;
    }

    static BranchTrees sameNames(int times, int low, int high) {
        BranchTrees x = new BranchTrees();
        for (int name = 0; name < times; name++) {
            x.name(low, high);
        }
        return x;
    }

    static int row(BranchTrees x, int sense, int right, int... factors) {
        int row = x.row(sense, right);
        for (int name = 0; name < factors.length; name++) {
            x.factor(row, name, factors[name]);
        }
        return row;
    }

    static void emptyRows(BranchTrees x, int times) {
        for (int row = 0; row < times; row++) {
            x.row(0, 0);
        }
    }

    static void costs(BranchTrees x, int... factors) {
        for (int name = 0; name < factors.length; name++) {
            x.cost(name, factors[name]);
        }
    }

    static void starts(BranchTrees x, int... values) {
        for (int name = 0; name < values.length; name++) {
            x.start(name, values[name]);
        }
    }

    /** START with these values, offered. */
    static int offer(BranchTrees x, int... values) {
        starts(x, values);
        return x.offer();
    }

    /** A TREE of 599 NODES, of which 300 are open and none can be parted for want of room. */
    static BranchTrees fullTree() {
        BranchTrees x = sameNames(8, -50, 50);
        x.rule(0, 2);
        x.run(300);
        return x;
    }
}
