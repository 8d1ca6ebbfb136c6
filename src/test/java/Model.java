import java.util.ArrayList;
import java.util.Arrays;
import java.util.List;

/**
 * The document once more, word by word and slow, to hold the program against.
 * Nothing is kept that can be found out again.
 */
final class Model {
    private static final class Line {
        int sense;
        int right;
        boolean order;
        int[] f = new int[8];
    }

    private static final class Case {
        Case parent;
        int name = -1;
        int side;
        int v;
        int state;
        int closer = -2;
        int partedBy = -2;
        int[] l = new int[8];
        int[] u = new int[8];
    }

    private final List<int[]> spans = new ArrayList<>();
    private final List<Line> lines = new ArrayList<>();
    private final int[] costs = new int[8];
    private final int[] rules = new int[3];
    private final int[] start = new int[8];
    private final List<Case> tree = new ArrayList<>();
    private final List<List<Integer>> gains = new ArrayList<>();
    private int[] best = null;
    private int worked = 0;

    Model() {
        for (int name = 0; name < 8; name++) {
            gains.add(new ArrayList<>());
        }
    }

    private void told() {
        tree.clear();
        worked = 0;
        best = null;
        for (List<Integer> gain : gains) {
            gain.clear();
        }
    }

    private boolean isName(int name) {
        return 0 <= name && name < spans.size();
    }

    int name(int low, int high) {
        if (low < -50 || low > 50 || high < -50 || high > 50 || low > high) {
            return -1;
        }
        if (spans.size() == 8) {
            return -3;
        }
        told();
        spans.add(new int[] {low, high});
        return spans.size() - 1;
    }

    int row(int sense, int right) {
        if (sense < 0 || sense > 2 || right < -1000 || right > 1000) {
            return -1;
        }
        if (lines.size() == 16) {
            return -3;
        }
        told();
        Line line = new Line();
        line.sense = sense;
        line.right = right;
        lines.add(line);
        return lines.size() - 1;
    }

    int factor(int row, int name, int f) {
        if (row < 0 || row >= lines.size() || !isName(name) || f < -20 || f > 20) {
            return -1000;
        }
        told();
        int was = lines.get(row).f[name];
        lines.get(row).f[name] = f;
        return was;
    }

    int cost(int name, int f) {
        if (!isName(name) || f < -20 || f > 20) {
            return -1000;
        }
        told();
        int was = costs[name];
        costs[name] = f;
        return was;
    }

    int alike(int a, int b) {
        if (!isName(a) || !isName(b)) {
            return -1;
        }
        if (!Arrays.equals(spans.get(a), spans.get(b)) || costs[a] != costs[b]) {
            return 0;
        }
        List<String> asTold = new ArrayList<>();
        List<String> changed = new ArrayList<>();
        for (Line line : lines) {
            if (!line.order) {
                int[] swapped = line.f.clone();
                swapped[a] = line.f[b];
                swapped[b] = line.f[a];
                String head = line.sense + " " + line.right + " ";
                asTold.add(head + Arrays.toString(line.f));
                changed.add(head + Arrays.toString(swapped));
            }
        }
        asTold.sort(null);
        changed.sort(null);
        return asTold.equals(changed) ? 1 : 0;
    }

    int order() {
        for (Line line : lines) {
            if (line.order) {
                return -2;
            }
        }
        int came = 0;
        for (int a = 0; a < spans.size(); a++) {
            for (int b = a + 1; b < spans.size(); b++) {
                if (alike(a, b) == 1) {
                    if (lines.size() < 16) {
                        Line line = new Line();
                        line.order = true;
                        line.f[a] = 1;
                        line.f[b] = -1;
                        lines.add(line);
                        came++;
                    }
                    break;
                }
            }
        }
        if (came > 0) {
            told();
        }
        return came;
    }

    int rule(int what, int v) {
        int kinds = what == 0 ? 3 : what == 1 ? 4 : what == 2 ? 2 : 0;
        if (v < 0 || v >= kinds) {
            return -1;
        }
        int was = rules[what];
        rules[what] = v;
        return was;
    }

    int start(int name, int v) {
        if (!isName(name) || v < -50 || v > 50) {
            return -1000;
        }
        int was = start[name];
        start[name] = v;
        return was;
    }

    int offer() {
        for (int name = 0; name < spans.size(); name++) {
            if (start[name] < spans.get(name)[0] || start[name] > spans.get(name)[1]) {
                return 0;
            }
        }
        for (Line line : lines) {
            int sum = sum(line.f, start);
            boolean kept = line.sense == 0 ? sum <= line.right : line.sense == 1 ? sum >= line.right : sum == line.right;
            if (!kept) {
                return 0;
            }
        }
        if (best != null && sum(costs, start) >= sum(costs, best)) {
            return 0;
        }
        best = start.clone();
        return 1;
    }

    private int sum(int[] f, int[] values) {
        int sum = 0;
        for (int name = 0; name < spans.size(); name++) {
            sum += f[name] * values[name];
        }
        return sum;
    }

    private int least(int[] f, Case c) {
        int sum = 0;
        for (int name = 0; name < spans.size(); name++) {
            sum += Math.min(f[name] * c.l[name], f[name] * c.u[name]);
        }
        return sum;
    }

    private int lower(Case c) {
        return least(costs, c);
    }

    /** Whether a row at most closes the case. */
    private boolean atMost(int[] f, int r, Case c) {
        if (least(f, c) > r) {
            return true;
        }
        for (int name = 0; name < spans.size(); name++) {
            if (f[name] == 0) {
                continue;
            }
            int rest = least(f, c) - Math.min(f[name] * c.l[name], f[name] * c.u[name]);
            double share = (double) (r - rest) / f[name];
            if (f[name] > 0) {
                c.u[name] = Math.min(c.u[name], (int) Math.floor(share));
            } else {
                c.l[name] = Math.max(c.l[name], (int) Math.ceil(share));
            }
            if (c.l[name] > c.u[name]) {
                return true;
            }
        }
        return false;
    }

    private static int[] negated(int[] f) {
        int[] negated = new int[8];
        for (int name = 0; name < 8; name++) {
            negated[name] = -f[name];
        }
        return negated;
    }

    private int narrow(Case c) {
        while (true) {
            int[] l = c.l.clone();
            int[] u = c.u.clone();
            for (int row = 0; row < lines.size(); row++) {
                Line line = lines.get(row);
                if (line.sense != 1 && atMost(line.f, line.right, c)) {
                    return row;
                }
                if (line.sense != 0 && atMost(negated(line.f), -line.right, c)) {
                    return row;
                }
            }
            if (best != null && atMost(costs, sum(costs, best) - 1, c)) {
                return 16;
            }
            if (Arrays.equals(l, c.l) && Arrays.equals(u, c.u)) {
                return -2;
            }
        }
    }

    private Case withSpans() {
        Case c = new Case();
        for (int name = 0; name < spans.size(); name++) {
            c.l[name] = spans.get(name)[0];
            c.u[name] = spans.get(name)[1];
        }
        return c;
    }

    private void make(Case c) {
        c.closer = narrow(c);
        c.state = c.closer == -2 ? 0 : 2;
        tree.add(c);
    }

    private Case pick() {
        Case picked = null;
        for (Case c : tree) {
            if (c.state == 0) {
                if (picked == null || rules[0] == 0 || rules[0] == 1 && lower(c) < lower(picked)) {
                    picked = c;
                }
            }
        }
        return picked;
    }

    private int choose(Case c) {
        int chosen = -1;
        for (int name = spans.size() - 1; name >= 0; name--) {
            if (c.l[name] < c.u[name]) {
                boolean better = chosen == -1
                    || rules[1] == 0
                    || rules[1] == 1 && c.u[name] - c.l[name] <= c.u[chosen] - c.l[chosen]
                    || rules[1] == 2 && price(name) >= price(chosen)
                    || rules[1] == 3 && Math.abs(costs[name]) >= Math.abs(costs[chosen]);
                if (better) {
                    chosen = name;
                }
            }
        }
        return chosen;
    }

    private void part(Case c, int name) {
        c.state = 1;
        c.partedBy = name;
        int m = (int) Math.floor((c.l[name] + c.u[name]) / 2.0);
        int[] sides = rules[2] == 0 ? new int[] {0, 1} : new int[] {1, 0};
        for (int side : sides) {
            Case child = new Case();
            child.parent = c;
            child.name = name;
            child.side = side;
            child.l = c.l.clone();
            child.u = c.u.clone();
            if (side == 0) {
                child.v = m;
                child.u[name] = m;
            } else {
                child.v = m + 1;
                child.l[name] = m + 1;
            }
            make(child);
            gains.get(name).add(child.state == 2 ? 50 : lower(child) - lower(c));
        }
    }

    int run(int work) {
        if (work < 1 || work > 300 || spans.isEmpty()) {
            return -1;
        }
        if (tree.isEmpty()) {
            make(withSpans());
        }
        for (int done = 0; done < work; done++) {
            Case c = pick();
            if (c == null) {
                break;
            }
            if (best != null && lower(c) >= sum(costs, best)) {
                c.state = 3;
            } else if (choose(c) == -1) {
                c.state = 4;
                best = c.l.clone();
            } else if (tree.size() > 598) {
                return -3;
            } else {
                part(c, choose(c));
            }
            worked++;
        }
        return pick() != null ? 2 : best != null ? 1 : 0;
    }

    int restart() {
        int had = tree.size();
        tree.clear();
        worked = 0;
        return had;
    }

    int best(int name) {
        if (best == null || name != -1 && !isName(name)) {
            return -1000000;
        }
        return name == -1 ? sum(costs, best) : best[name];
    }

    int bound() {
        if (tree.isEmpty()) {
            return -1000000;
        }
        int bound = best == null ? 1000000 : sum(costs, best);
        for (Case c : tree) {
            if (c.state == 0) {
                bound = Math.min(bound, lower(c));
            }
        }
        return bound;
    }

    int node(int i, int what) {
        if (i < 0 || i >= tree.size() || what < 0 || what > 8) {
            return -1000000;
        }
        Case c = tree.get(i);
        int deep = 0;
        for (Case above = c.parent; above != null; above = above.parent) {
            deep++;
        }
        int[] told = {tree.indexOf(c.parent), c.name, c.side, c.v, c.state, lower(c), c.closer, c.partedBy, deep};
        return told[what];
    }

    int boundOf(int i, int name, int side) {
        if (i < 0 || i >= tree.size() || !isName(name) || side < 0 || side > 1) {
            return -1000;
        }
        return side == 1 ? tree.get(i).l[name] : tree.get(i).u[name];
    }

    int price(int name) {
        if (!isName(name)) {
            return -1;
        }
        long added = 0;
        for (int gain : gains.get(name)) {
            added += gain;
        }
        return gains.get(name).isEmpty() ? 0 : (int) (16 * added / gains.get(name).size());
    }

    int check() {
        if (tree.isEmpty()) {
            return -1;
        }
        for (Case c : tree) {
            if (c.state == 0) {
                return 0;
            }
            int children = 0;
            for (Case other : tree) {
                children += other.parent == c ? 1 : 0;
            }
            if (c.state == 1 ? children != 2 : !closedAnew(c)) {
                return 0;
            }
        }
        return 1;
    }

    private boolean closedAnew(Case leaf) {
        List<Case> way = new ArrayList<>();
        for (Case c = leaf; c.parent != null; c = c.parent) {
            way.add(0, c);
        }
        Case anew = withSpans();
        for (Case c : way) {
            if (c.side == 0) {
                anew.u[c.name] = c.v;
            } else {
                anew.l[c.name] = c.v;
            }
        }
        return narrow(anew) != -2;
    }

    int count(int what) {
        int orders = 0;
        for (Line line : lines) {
            orders += line.order ? 1 : 0;
        }
        int[] states = new int[5];
        for (Case c : tree) {
            states[c.state]++;
        }
        int[] told = {spans.size(), lines.size(), orders, tree.size(), states[0], worked, best == null ? 0 : 1,
            states[2], states[3], states[4]};
        return what < 0 || what > 9 ? -1 : told[what];
    }
}
