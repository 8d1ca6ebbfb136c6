/**
 * Whole numbers with spans, rows that must hold and a cost that shall be least:
 * a tree of cases looks for the best plan and, when all cases are closed, proves it.
 */
public final class BranchTrees {
    public static final int BAD = -1, NONE = -2, FULL = -3;

    // BAD where - 1 can be an answer: of values and factors, and of costs.
    private static final int BAD_VALUE = -1_000;
    private static final int BAD_COST = -1_000_000;
    private static final int NO_PLAN_AT_ALL = 1_000_000;

    private static final int MAX_NAMES = 8;
    private static final int MAX_ROWS = 16;
    private static final int MAX_NODES = 600;
    private static final int MAX_WORK = 300;
    private static final int MAX_VALUE = 50;
    private static final int MAX_FACTOR = 20;
    private static final int MAX_RIGHT = 1_000;
    // Each round but the last takes at least 1 from 8 spans of at most 100 each.
    private static final int MAX_ROUNDS = 1_000;

    private static final int AT_MOST = 0, AT_LEAST = 1, EQUAL = 2;
    private static final int COST_ROW = 16;
    private static final int OPEN = 0, PARTED = 1, CLOSED_BY_ROW = 2, CLOSED_BY_COST = 3, PLAN = 4;
    private static final int UPPER_SIDE = 0, LOWER_SIDE = 1;

    private static final int PICKING = 0, CHOOSING = 1, FIRST_SIDE = 2;
    private static final int[] RULE_KINDS = {3, 4, 2};
    private static final int PICK_NEWEST = 0, PICK_CHEAPEST = 1;
    private static final int CHOOSE_NARROWEST = 1, CHOOSE_PRICE = 2, CHOOSE_COST = 3;

    private static final int PRICE_OF_CLOSED = 50;
    private static final int PRICE_SCALE = 16;

    private final Problem problem;
    private final Best best;
    private final Prices prices;
    private final Tree tree;
    private final Search search;
    private final Proof proof;
    private final int[] rules;
    private final int[] startValues;

    public BranchTrees() {
        problem = new Problem();
        best = new Best();
        prices = new Prices();
        tree = new Tree();
        rules = new int[RULE_KINDS.length];
        startValues = new int[MAX_NAMES];
        Narrower narrower = new Narrower(problem, best);
        search = new Search(problem, best, prices, tree, narrower, rules);
        proof = new Proof(problem, tree, narrower);
    }

    public int name(int low, int high) {
        if (!isWithin(low, MAX_VALUE) || !isWithin(high, MAX_VALUE) || low > high) {
            return BAD;
        }
        int number = problem.addName(low, high);
        if (number != FULL) {
            forgetSearch();
        }
        return number;
    }

    public int row(int sense, int right) {
        if (sense < AT_MOST || sense > EQUAL || !isWithin(right, MAX_RIGHT)) {
            return BAD;
        }
        int number = problem.addRow(sense, right);
        if (number != FULL) {
            forgetSearch();
        }
        return number;
    }

    public int factor(int row, int name, int f) {
        if (!problem.hasRow(row) || !problem.hasName(name) || !isWithin(f, MAX_FACTOR)) {
            return BAD_VALUE;
        }
        int before = problem.factors[row][name];
        problem.factors[row][name] = f;
        forgetSearch();
        return before;
    }

    public int cost(int name, int f) {
        if (!problem.hasName(name) || !isWithin(f, MAX_FACTOR)) {
            return BAD_VALUE;
        }
        int before = problem.costs[name];
        problem.costs[name] = f;
        forgetSearch();
        return before;
    }

    public int alike(int a, int b) {
        if (!problem.hasName(a) || !problem.hasName(b)) {
            return BAD;
        }
        return problem.canSwap(a, b) ? 1 : 0;
    }

    public int order() {
        if (problem.orderCount > 0) {
            return NONE;
        }
        int came = problem.addOrders();
        if (came > 0) {
            forgetSearch();
        }
        return came;
    }

    public int rule(int what, int v) {
        if (what < 0 || what >= RULE_KINDS.length || v < 0 || v >= RULE_KINDS[what]) {
            return BAD;
        }
        int before = rules[what];
        rules[what] = v;
        return before;
    }

    public int start(int name, int v) {
        if (!problem.hasName(name) || !isWithin(v, MAX_VALUE)) {
            return BAD_VALUE;
        }
        int before = startValues[name];
        startValues[name] = v;
        return before;
    }

    public int offer() {
        if (!problem.isPlan(startValues)) {
            return 0;
        }
        int startCost = problem.sumOf(problem.costs, startValues);
        if (best.isNotAbove(startCost)) {
            return 0;
        }
        best.take(startValues, startCost);
        return 1;
    }

    public int run(int work) {
        if (work < 1 || work > MAX_WORK || problem.nameCount == 0) {
            return BAD;
        }
        if (tree.size == 0) {
            search.plantRoot();
        }
        for (int done = 0; done < work; done++) {
            Node picked = tree.pick(rules[PICKING]);
            if (picked == null) {
                break;
            }
            if (!search.workAt(picked)) {
                return FULL;
            }
        }
        if (tree.countOf(OPEN) > 0) {
            return 2;
        }
        return best.found ? 1 : 0;
    }

    public int restart() {
        int had = tree.size;
        tree.fell();
        return had;
    }

    public int best(int name) {
        if (best.found && name == -1) {
            return best.lowest;
        }
        if (!best.found || !problem.hasName(name)) {
            return BAD_COST;
        }
        return best.values[name];
    }

    public int bound() {
        if (tree.size == 0) {
            return BAD_COST;
        }
        return tree.leastOpen(best.found ? best.lowest : NO_PLAN_AT_ALL);
    }

    public int node(int i, int what) {
        Node found = tree.at(i);
        if (found == null) {
            return BAD_COST;
        }
        switch (what) {
            case 0: return found.parent;
            case 1: return found.cutName;
            case 2: return found.cutSide;
            case 3: return found.cutValue;
            case 4: return found.state;
            case 5: return found.lower;
            case 6: return found.closedBy;
            case 7: return found.partedBy;
            case 8: return found.depth;
            default: return BAD_COST;
        }
    }

    public int boundOf(int i, int name, int side) {
        Node found = tree.at(i);
        if (found == null || !problem.hasName(name)) {
            return BAD_VALUE;
        }
        switch (side) {
            case UPPER_SIDE: return found.box.high[name];
            case LOWER_SIDE: return found.box.low[name];
            default: return BAD_VALUE;
        }
    }

    public int price(int name) {
        return problem.hasName(name) ? prices.priceOf(name) : BAD;
    }

    public int check() {
        if (tree.size == 0) {
            return BAD;
        }
        return proof.holds() ? 1 : 0;
    }

    public int count(int what) {
        switch (what) {
            case 0: return problem.nameCount;
            case 1: return problem.rowCount;
            case 2: return problem.orderCount;
            case 3: return tree.size;
            case 4: return tree.countOf(OPEN);
            case 5: return tree.worked;
            case 6: return best.found ? 1 : 0;
            case 7: return tree.countOf(CLOSED_BY_ROW);
            case 8: return tree.countOf(CLOSED_BY_COST);
            case 9: return tree.countOf(PLAN);
            default: return BAD;
        }
    }

    // What was found of another problem says nothing of this one.
    private void forgetSearch() {
        tree.fell();
        best.found = false;
        prices.forget();
    }

    private static boolean isWithin(int value, int limit) {
        return value >= -limit && value <= limit;
    }

    /** NAMES, ROWS (ORDERS among them) and THE COST. */
    private static final class Problem {
        final int[] lows = new int[MAX_NAMES];
        final int[] highs = new int[MAX_NAMES];
        final int[] costs = new int[MAX_NAMES];
        final int[] senses = new int[MAX_ROWS];
        final int[] rights = new int[MAX_ROWS];
        final boolean[] isOrder = new boolean[MAX_ROWS];
        final int[][] factors = new int[MAX_ROWS][MAX_NAMES];
        int nameCount;
        int rowCount;
        int orderCount;

        boolean hasName(int name) {
            return name >= 0 && name < nameCount;
        }

        boolean hasRow(int row) {
            return row >= 0 && row < rowCount;
        }

        int addName(int low, int high) {
            if (nameCount >= MAX_NAMES) {
                return FULL;
            }
            lows[nameCount] = low;
            highs[nameCount] = high;
            nameCount++;
            return nameCount - 1;
        }

        int addRow(int sense, int right) {
            if (rowCount >= MAX_ROWS) {
                return FULL;
            }
            senses[rowCount] = sense;
            rights[rowCount] = right;
            rowCount++;
            return rowCount - 1;
        }

        int addOrders() {
            for (int name = 0; name < nameCount; name++) {
                int next = nextAlike(name);
                if (next != NONE) {
                    addOrder(name, next);
                }
            }
            return orderCount;
        }

        private int nextAlike(int name) {
            for (int next = name + 1; next < nameCount; next++) {
                if (canSwap(name, next)) {
                    return next;
                }
            }
            return NONE;
        }

        private void addOrder(int first, int second) {
            int row = addRow(AT_MOST, 0);
            if (row != FULL) {
                factors[row][first] = 1;
                factors[row][second] = -1;
                isOrder[row] = true;
                orderCount++;
            }
        }

        boolean canSwap(int a, int b) {
            if (lows[a] != lows[b] || highs[a] != highs[b] || costs[a] != costs[b]) {
                return false;
            }
            for (int row = 0; row < rowCount; row++) {
                // Changing a for a leaves a row as it is.
                if (!isOrder[row] && timesFound(row, a, b) != timesFound(row, a, a)) {
                    return false;
                }
            }
            return true;
        }

        private int timesFound(int row, int a, int b) {
            int times = 0;
            for (int other = 0; other < rowCount; other++) {
                if (!isOrder[other] && isSwapped(row, other, a, b)) {
                    times++;
                }
            }
            return times;
        }

        private boolean isSwapped(int row, int other, int a, int b) {
            if (senses[row] != senses[other] || rights[row] != rights[other]) {
                return false;
            }
            for (int name = 0; name < nameCount; name++) {
                int swapped = name == a ? b : name == b ? a : name;
                if (factors[row][name] != factors[other][swapped]) {
                    return false;
                }
            }
            return true;
        }

        boolean isPlan(int[] values) {
            for (int name = 0; name < nameCount; name++) {
                if (values[name] < lows[name] || values[name] > highs[name]) {
                    return false;
                }
            }
            for (int row = 0; row < rowCount; row++) {
                int sum = sumOf(factors[row], values);
                if (binds(row, 1) && sum > rights[row] || binds(row, -1) && sum < rights[row]) {
                    return false;
                }
            }
            return true;
        }

        /** Whether a row holds as at most (sign 1), or as at least (sign - 1). */
        boolean binds(int row, int sign) {
            return senses[row] == EQUAL || senses[row] == (sign > 0 ? AT_MOST : AT_LEAST);
        }

        int sumOf(int[] rowFactors, int[] values) {
            int sum = 0;
            for (int name = 0; name < nameCount; name++) {
                sum += rowFactors[name] * values[name];
            }
            return sum;
        }
    }

    /** The PLAN that was found with the least COST so far. */
    private static final class Best {
        final int[] values = new int[MAX_NAMES];
        boolean found;
        int lowest;

        boolean isNotAbove(int planCost) {
            return found && lowest <= planCost;
        }

        void take(int[] plan, int planCost) {
            for (int name = 0; name < MAX_NAMES; name++) {
                values[name] = plan[name];
            }
            lowest = planCost;
            found = true;
        }
    }

    /** What parting by a NAME brought so far. */
    private static final class Prices {
        final long[] added = new long[MAX_NAMES];
        final int[] times = new int[MAX_NAMES];

        void learn(int name, int gain) {
            added[name] += gain;
            times[name] += 2;
        }

        int priceOf(int name) {
            return times[name] > 0 ? (int) (PRICE_SCALE * added[name] / times[name]) : 0;
        }

        void forget() {
            for (int name = 0; name < MAX_NAMES; name++) {
                added[name] = 0;
                times[name] = 0;
            }
        }
    }

    /** l and u of each NAME. */
    private static final class Box {
        final int[] low = new int[MAX_NAMES];
        final int[] high = new int[MAX_NAMES];

        void copyFrom(int[] lows, int[] highs) {
            for (int name = 0; name < MAX_NAMES; name++) {
                low[name] = lows[name];
                high[name] = highs[name];
            }
        }

        void cut(int name, int side, int v) {
            if (side == UPPER_SIDE) {
                high[name] = Math.min(high[name], v);
            } else {
                low[name] = Math.max(low[name], v);
            }
        }

        int leastOf(int[] factors, int sign, int nameCount) {
            int least = 0;
            for (int name = 0; name < nameCount; name++) {
                int f = sign * factors[name];
                least += f * (f > 0 ? low[name] : high[name]);
            }
            return least;
        }
    }

    /** NARROWING of bounds by all ROWS and by the BEST. */
    private static final class Narrower {
        final Problem problem;
        final Best best;
        boolean changed;

        Narrower(Problem problem, Best best) {
            this.problem = problem;
            this.best = best;
        }

        /** The number of the row that CLOSED the bounds, or NONE. */
        int narrow(Box box) {
            for (int round = 0; round < MAX_ROUNDS; round++) {
                changed = false;
                int closer = goRound(box);
                if (closer != NONE || !changed) {
                    return closer;
                }
            }
            return NONE;
        }

        private int goRound(Box box) {
            for (int row = 0; row < problem.rowCount; row++) {
                for (int sign = 1; sign >= -1; sign -= 2) {
                    if (problem.binds(row, sign)
                            && closes(box, problem.factors[row], sign, sign * problem.rights[row])) {
                        return row;
                    }
                }
            }
            if (best.found && closes(box, problem.costs, 1, best.lowest - 1)) {
                return COST_ROW;
            }
            return NONE;
        }

        /**
         * Narrows by one row at most, its factors times the sign; true if that closes the box.
         * LEAST is made of l where f is above 0 and of u where it is below; the row moves the
         * other bound, so LEAST stays, and (right - REST) / f is that l or u plus slack / f.
         * With a slack of 0 or more no l comes above u, and a division towards 0 is
         * downwards for f above 0 and upwards for f below 0, as it is due.
         */
        private boolean closes(Box box, int[] factors, int sign, int right) {
            int slack = right - box.leastOf(factors, sign, problem.nameCount);
            if (slack < 0) {
                return true;
            }
            for (int name = 0; name < problem.nameCount; name++) {
                int f = sign * factors[name];
                if (f > 0 && box.high[name] > box.low[name] + slack / f) {
                    box.high[name] = box.low[name] + slack / f;
                    changed = true;
                } else if (f < 0 && box.low[name] < box.high[name] + slack / f) {
                    box.low[name] = box.high[name] + slack / f;
                    changed = true;
                }
            }
            return false;
        }
    }

    /** A case: how it was cut from its parent, its bounds, and what became of it. */
    private static final class Node {
        final int number;
        final Box box = new Box();
        int parent;
        int cutName;
        int cutSide;
        int cutValue;
        int depth;
        int state;
        int lower;
        int closedBy;
        int partedBy;
        int children;

        Node(int number) {
            this.number = number;
        }

        void becomeRoot(Problem problem) {
            parent = -1;
            cutName = -1;
            cutSide = 0;
            cutValue = 0;
            depth = 0;
            box.copyFrom(problem.lows, problem.highs);
        }

        void becomeChild(Node above, int name, int side, int v) {
            parent = above.number;
            cutName = name;
            cutSide = side;
            cutValue = v;
            depth = above.depth + 1;
            box.copyFrom(above.box.low, above.box.high);
            box.cut(name, side, v);
        }

        /** What holds once the bounds are narrowed; the closer is a row's number or NONE. */
        void settle(int closer, Problem problem) {
            closedBy = closer;
            state = closer == NONE ? OPEN : CLOSED_BY_ROW;
            lower = box.leastOf(problem.costs, 1, problem.nameCount);
            partedBy = NONE;
        }
    }

    /** The NODES, as they are made; a size of 0 is no TREE. */
    private static final class Tree {
        // Kept when a tree goes, for the next one.
        private final Node[] nodes = new Node[MAX_NODES];
        int size;
        int worked;

        void fell() {
            size = 0;
            worked = 0;
        }

        Node at(int i) {
            return i >= 0 && i < size ? nodes[i] : null;
        }

        boolean hasRoomForTwo() {
            return size + 2 <= MAX_NODES;
        }

        /** The next NODE, or null without room. */
        Node grow() {
            if (size >= MAX_NODES) {
                return null;
            }
            if (nodes[size] == null) {
                nodes[size] = new Node(size);
            }
            size++;
            return nodes[size - 1];
        }

        /** The open NODE that is next by the rule, or null. */
        Node pick(int picking) {
            Node picked = null;
            for (int i = 0; i < size; i++) {
                Node node = nodes[i];
                if (node != null && node.state == OPEN
                        && (picked == null || isBetter(node, picked, picking))) {
                    picked = node;
                }
            }
            return picked;
        }

        private static boolean isBetter(Node later, Node earlier, int picking) {
            return picking == PICK_NEWEST
                    || picking == PICK_CHEAPEST && later.lower < earlier.lower;
        }

        int countOf(int state) {
            int found = 0;
            for (int i = 0; i < size; i++) {
                Node node = nodes[i];
                if (node != null && node.state == state) {
                    found++;
                }
            }
            return found;
        }

        int leastOpen(int limit) {
            int least = limit;
            for (int i = 0; i < size; i++) {
                Node node = nodes[i];
                if (node != null && node.state == OPEN) {
                    least = Math.min(least, node.lower);
                }
            }
            return least;
        }
    }

    /** How the TREE grows. */
    private static final class Search {
        final Problem problem;
        final Best best;
        final Prices prices;
        final Tree tree;
        final Narrower narrower;
        final int[] rules;

        Search(Problem problem, Best best, Prices prices, Tree tree, Narrower narrower, int[] rules) {
            this.problem = problem;
            this.best = best;
            this.prices = prices;
            this.tree = tree;
            this.narrower = narrower;
            this.rules = rules;
        }

        void plantRoot() {
            Node root = tree.grow();
            if (root != null) {
                root.becomeRoot(problem);
                root.settle(narrower.narrow(root.box), problem);
            }
        }

        /** False if the NODE is to be parted and there is no room: then nothing was done. */
        boolean workAt(Node node) {
            if (best.isNotAbove(node.lower)) {
                node.state = CLOSED_BY_COST;
            } else {
                int name = choose(node.box);
                if (name == NONE) {
                    node.state = PLAN;
                    best.take(node.box.low, node.lower);
                } else if (tree.hasRoomForTwo()) {
                    part(node, name);
                } else {
                    return false;
                }
            }
            tree.worked++;
            return true;
        }

        /** A NAME with l below u, or NONE if all l are u. */
        private int choose(Box box) {
            int chosen = NONE;
            int greatest = 0;
            for (int name = 0; name < problem.nameCount; name++) {
                if (box.low[name] < box.high[name]) {
                    int merit = meritOf(box, name);
                    if (chosen == NONE || merit > greatest) {
                        chosen = name;
                        greatest = merit;
                    }
                }
            }
            return chosen;
        }

        private int meritOf(Box box, int name) {
            switch (rules[CHOOSING]) {
                case CHOOSE_NARROWEST: return box.low[name] - box.high[name];
                case CHOOSE_PRICE: return prices.priceOf(name);
                case CHOOSE_COST: return Math.abs(problem.costs[name]);
                default: return 0;
            }
        }

        private void part(Node node, int name) {
            int middle = Math.floorDiv(node.box.low[name] + node.box.high[name], 2);
            node.state = PARTED;
            node.partedBy = name;
            int side = rules[FIRST_SIDE];
            int gain = 0;
            for (int child = 0; child < 2; child++) {
                Node below = tree.grow();
                if (below != null) {
                    // The lower half ends at the middle, the upper one begins behind it.
                    below.becomeChild(node, name, side, middle + side);
                    below.settle(narrower.narrow(below.box), problem);
                    gain += below.state == OPEN ? below.lower - node.lower : PRICE_OF_CLOSED;
                }
                side = 1 - side;
            }
            prices.learn(name, gain);
        }
    }

    /** Whether the TREE is a proof, by its cuts alone. */
    private static final class Proof {
        final Problem problem;
        final Tree tree;
        final Narrower narrower;
        final Box box = new Box();

        Proof(Problem problem, Tree tree, Narrower narrower) {
            this.problem = problem;
            this.tree = tree;
            this.narrower = narrower;
        }

        boolean holds() {
            if (tree.countOf(OPEN) > 0) {
                return false;
            }
            countChildren();
            for (int i = 0; i < tree.size; i++) {
                Node node = tree.at(i);
                if (node != null && !isProven(node)) {
                    return false;
                }
            }
            return true;
        }

        private void countChildren() {
            for (int i = 0; i < tree.size; i++) {
                Node node = tree.at(i);
                if (node != null) {
                    node.children = 0;
                    // A parent is always made, and set to 0 here, before its children.
                    Node above = tree.at(node.parent);
                    if (above != null) {
                        above.children++;
                    }
                }
            }
        }

        private boolean isProven(Node node) {
            if (node.state == PARTED) {
                return node.children == 2;
            }
            cutBox(node);
            return narrower.narrow(box) != NONE;
        }

        private void cutBox(Node leaf) {
            box.copyFrom(problem.lows, problem.highs);
            Node node = leaf;
            for (int step = 0; step < MAX_NODES && node != null; step++) {
                if (problem.hasName(node.cutName)) {
                    box.cut(node.cutName, node.cutSide, node.cutValue);
                }
                node = tree.at(node.parent);
            }
        }
    }
}
