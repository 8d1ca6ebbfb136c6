/** Each sentence of the promises 1 to 19 that names a boundary case, with a test of its own. */
public final class BoundaryPromisesTest {
    private static final int AT_MOST = 0, AT_LEAST = 1, EQUAL = 2;
    private static final int[] FAR = {Integer.MIN_VALUE, -1_000_000, -1_000, 1_000, 1_000_000, Integer.MAX_VALUE};

    private BoundaryPromisesTest() {
    }

    public static void main(String[] args) {
        noNamesNoRows();
        nameSpans();
        nameFull();
        rowSenses();
        rowRightSides();
        rowFull();
        factors();
        factorOfNoRow();
        factorOfNoName();
        factorOfOrders();
        costs();
        costOfNoName();
        alike();
        orders();
        rules();
        starts();
        offers();
        runs();
        restarts();
        bests();
        bounds();
        nodes();
        boundsOf();
        priceOfNoName();
        checks();
        counts();
        Expect.end();
    }

    private static void alike() {
        alikeNoSuchName();
        alikeItself();
        alikeSpanAndCost();
        alikeRowsAsOften();
        alikeRowsThatAreOrders();
    }

    private static void orders() {
        orderOfFewNames();
        orderOfTheNextGreater();
        orderNotAbove();
        orderAsLongAsThereIsRoom();
        orderAlready();
    }

    private static void rules() {
        ruleValues();
        ruleNoneSuch();
    }

    private static void starts() {
        startValues();
        startOfNoName();
        startZeroAtFirst();
    }

    private static void offers() {
        offerBelowBest();
        offerWithoutBest();
        offerWithoutNames();
    }

    private static void runs() {
        runOtherNumber();
        runWithoutNames();
        runSoManyAtMost();
        runNoneOpenWithBest();
        runNoneOpenWithoutBest();
        runSomeOpen();
        runFull();
        runWithoutRoomForWhatIsNotParted();
    }

    private static void restarts() {
        restartWithoutTree();
        restartManyNodes();
        restartKeepsBestAndPrices();
    }

    private static void bests() {
        bestNone();
        bestOfNoName();
    }

    private static void bounds() {
        boundWithoutTree();
        boundOfOpenNodesAlone();
        boundNotAboveBest();
        boundNoneOpen();
        boundWithoutBestToo();
    }

    private static void nodes() {
        nodeNoneSuch();
        nodeOfTheRoot();
        nodeClosedAsFarAsItCame();
        nodeNotClosedNotParted();
        nodeDeep();
    }

    private static void boundsOf() {
        boundOfNoneSuch();
        boundOfClosedAsFarAsItCame();
    }

    private static void checks() {
        checkWithoutTree();
        checkSomeOpen();
        checkClosedRoot();
        checkPlans();
        checkAllThatStandsOnItsWay();
    }

    private static void counts() {
        countOtherNumber();
        countOfNothing();
        countWorkedSinceTheTreeBegan();
        countStates();
        countStateOfTheRoot();
    }

    private static void noNamesNoRows() {
        Expect.about("1: No NAMES, no ROWS");
        BranchTrees x = new BranchTrees();
        Expect.is("NAMES", x.count(0), 0);
        Expect.is("ROWS", x.count(1), 0);
        Expect.is("factor(0, 0, 0)", x.factor(0, 0, 0), Tell.BAD_VALUE);
        Expect.is("cost(0, 0)", x.cost(0, 0), Tell.BAD_VALUE);
        Expect.is("start(0, 0)", x.start(0, 0), Tell.BAD_VALUE);
        Expect.is("alike(0, 0)", x.alike(0, 0), Tell.BAD);
        Expect.is("price(0)", x.price(0), Tell.BAD);
        Expect.is("the first NAME", x.name(0, 9), 0);
        Expect.is("the first ROW", x.row(AT_MOST, 3), 0);
        BranchTrees other = new BranchTrees();
        Expect.is("NAMES of another object", other.count(0), 0);
        Expect.is("ROWS of another object", other.count(1), 0);
    }

    private static void nameSpans() {
        Expect.about("2: a span (- 50 .. 50, low not above high) .. BAD: none such");
        int[][] good = {{-50, 50}, {-50, -50}, {50, 50}, {0, 0}, {49, 50}, {-50, -49}};
        for (int[] span : good) {
            BranchTrees x = new BranchTrees();
            Expect.is("name(" + span[0] + ", " + span[1] + ")", x.name(span[0], span[1]), 0);
            x.run(1);
            Expect.is("l", x.boundOf(0, 0, 1), span[0]);
            Expect.is("u", x.boundOf(0, 0, 0), span[1]);
        }
        int[][] bad = {{-51, 0}, {0, 51}, {-51, 51}, {51, 51}, {-51, -51}, {51, 0}, {0, -51}, {1, 0}, {50, -50}, {50, 49}};
        BranchTrees x = new BranchTrees();
        for (int[] span : bad) {
            Expect.is("name(" + span[0] + ", " + span[1] + ")", x.name(span[0], span[1]), Tell.BAD);
        }
        for (int far : FAR) {
            Expect.is("low " + far, x.name(far, 0), Tell.BAD);
            Expect.is("high " + far, x.name(0, far), Tell.BAD);
            Expect.is("both " + far, x.name(far, far), Tell.BAD);
        }
        Expect.is("NAMES", x.count(0), 0);
    }

    private static void nameFull() {
        Expect.about("2: FULL: 8");
        BranchTrees x = Tell.sameNames(7, 0, 1);
        Expect.is("the eighth", x.name(0, 1), 7);
        Expect.is("the ninth", x.name(0, 1), Tell.FULL);
        Expect.is("again", x.name(0, 1), Tell.FULL);
        Expect.is("NAMES", x.count(0), 8);
    }

    private static void rowSenses() {
        Expect.about("3: a sense .. BAD: none such");
        BranchTrees x = new BranchTrees();
        for (int sense = 0; sense < 3; sense++) {
            Expect.is("row(" + sense + ", 0)", x.row(sense, 0), sense);
        }
        Expect.is("row(-1, 0)", x.row(-1, 0), Tell.BAD);
        Expect.is("row(3, 0)", x.row(3, 0), Tell.BAD);
        for (int far : FAR) {
            Expect.is("sense " + far, x.row(far, 0), Tell.BAD);
        }
        Expect.is("ROWS", x.count(1), 3);
    }

    private static void rowRightSides() {
        Expect.about("3: a right side (- 1,000 .. 1,000) .. BAD: none such");
        for (int sense = 0; sense < 3; sense++) {
            BranchTrees x = new BranchTrees();
            Expect.is("1,000", x.row(sense, 1_000), 0);
            Expect.is("- 1,000", x.row(sense, -1_000), 1);
            Expect.is("1,001", x.row(sense, 1_001), Tell.BAD);
            Expect.is("- 1,001", x.row(sense, -1_001), Tell.BAD);
            Expect.is("MIN", x.row(sense, Integer.MIN_VALUE), Tell.BAD);
            Expect.is("MAX", x.row(sense, Integer.MAX_VALUE), Tell.BAD);
            Expect.is("ROWS", x.count(1), 2);
        }
        int[][] kept = {{1_000, 50}, {-1_000, -50}};
        for (int[] one : kept) {
            BranchTrees x = Tell.names(-50, 50);
            Tell.row(x, EQUAL, one[0], 20);
            x.run(1);
            Expect.is("20 times " + one[1], x.best(0), one[1]);
        }
    }

    private static void rowFull() {
        Expect.about("3: FULL: 16");
        BranchTrees x = new BranchTrees();
        Tell.emptyRows(x, 15);
        Expect.is("the sixteenth", x.row(AT_MOST, 0), 15);
        Expect.is("the seventeenth", x.row(AT_MOST, 0), Tell.FULL);
        Expect.is("again", x.row(AT_LEAST, 5), Tell.FULL);
        Expect.is("ROWS", x.count(1), 16);
        BranchTrees y = Tell.sameNames(2, 0, 1);
        Tell.emptyRows(y, 15);
        Expect.is("an ORDER is a ROW", y.order(), 1);
        Expect.is("after ORDERS", y.row(AT_MOST, 0), Tell.FULL);
    }

    private static void factors() {
        Expect.about("4: A factor (- 20 .. 20) .. what it was. BAD (- 1,000): no such .. factor");
        BranchTrees x = Tell.names(0, 9);
        x.row(AT_MOST, 0);
        Expect.is("20", x.factor(0, 0, 20), 0);
        Expect.is("21", x.factor(0, 0, 21), Tell.BAD_VALUE);
        Expect.is("- 20", x.factor(0, 0, -20), 20);
        Expect.is("- 21", x.factor(0, 0, -21), Tell.BAD_VALUE);
        for (int far : FAR) {
            Expect.is("factor " + far, x.factor(0, 0, far), Tell.BAD_VALUE);
        }
        Expect.is("0", x.factor(0, 0, 0), -20);
        Expect.is("1", x.factor(0, 0, 1), 0);
    }

    private static void factorOfNoRow() {
        Expect.about("4: BAD (- 1,000): no such ROW");
        BranchTrees x = Tell.names(0, 9);
        Expect.is("without ROWS", x.factor(0, 0, 1), Tell.BAD_VALUE);
        x.row(AT_MOST, 0);
        Expect.is("- 1", x.factor(-1, 0, 1), Tell.BAD_VALUE);
        Expect.is("1 of 1", x.factor(1, 0, 1), Tell.BAD_VALUE);
        Tell.emptyRows(x, 15);
        Expect.is("15 of 16", x.factor(15, 0, 1), 0);
        Expect.is("16, the number of THE COST", x.factor(16, 0, 1), Tell.BAD_VALUE);
        for (int far : FAR) {
            Expect.is("ROW " + far, x.factor(far, 0, 1), Tell.BAD_VALUE);
        }
    }

    private static void factorOfNoName() {
        Expect.about("4: BAD (- 1,000): no such .. NAME");
        BranchTrees x = new BranchTrees();
        x.row(AT_MOST, 0);
        Expect.is("without NAMES", x.factor(0, 0, 1), Tell.BAD_VALUE);
        x.name(0, 9);
        Expect.is("- 1", x.factor(0, -1, 1), Tell.BAD_VALUE);
        Expect.is("1 of 1", x.factor(0, 1, 1), Tell.BAD_VALUE);
        for (int name = 1; name < 8; name++) {
            x.name(0, 9);
        }
        Expect.is("7 of 8", x.factor(0, 7, 1), 0);
        Expect.is("8 of 8", x.factor(0, 8, 1), Tell.BAD_VALUE);
        for (int far : FAR) {
            Expect.is("NAME " + far, x.factor(0, far, 1), Tell.BAD_VALUE);
        }
    }

    private static void factorOfOrders() {
        Expect.about("4: of a ROW (one of ORDERS, too)");
        BranchTrees x = Tell.sameNames(2, 0, 9);
        x.order();
        Expect.is("of the first", x.factor(0, 0, 2), 1);
        Expect.is("of the second", x.factor(0, 1, 0), -1);
        Expect.is("it is an ORDER still", x.count(2), 1);
        Expect.is("2 times 1 is above 0", Tell.offer(x, 1, 9), 0);
        Expect.is("2 times 0 is not", Tell.offer(x, 0, 0), 1);
    }

    private static void costs() {
        Expect.about("5: A factor (- 20 .. 20) of THE COST: what it was. BAD (- 1,000): no such .. factor");
        BranchTrees x = Tell.names(0, 9);
        Expect.is("20", x.cost(0, 20), 0);
        Expect.is("21", x.cost(0, 21), Tell.BAD_VALUE);
        Expect.is("- 20", x.cost(0, -20), 20);
        Expect.is("- 21", x.cost(0, -21), Tell.BAD_VALUE);
        for (int far : FAR) {
            Expect.is("factor " + far, x.cost(0, far), Tell.BAD_VALUE);
        }
        Expect.is("0", x.cost(0, 0), -20);
        Expect.is("1", x.cost(0, 1), 0);
    }

    private static void costOfNoName() {
        Expect.about("5: BAD (- 1,000): no such NAME");
        BranchTrees x = new BranchTrees();
        Expect.is("without NAMES", x.cost(0, 1), Tell.BAD_VALUE);
        for (int name = 0; name < 8; name++) {
            x.name(0, 9);
            Expect.is("- 1", x.cost(-1, 1), Tell.BAD_VALUE);
            Expect.is("the last", x.cost(name, 1), 0);
            Expect.is("behind the last", x.cost(name + 1, 1), Tell.BAD_VALUE);
        }
        for (int far : FAR) {
            Expect.is("NAME " + far, x.cost(far, 1), Tell.BAD_VALUE);
        }
    }

    private static void alikeNoSuchName() {
        Expect.about("6: BAD: none such");
        BranchTrees x = new BranchTrees();
        Expect.is("without NAMES", x.alike(0, 0), Tell.BAD);
        for (int name = 0; name < 8; name++) {
            x.name(0, 9);
            Expect.is("the last", x.alike(name, 0), 1);
            Expect.is("the last", x.alike(0, name), 1);
            Expect.is("behind the last", x.alike(name + 1, 0), Tell.BAD);
            Expect.is("behind the last", x.alike(0, name + 1), Tell.BAD);
            Expect.is("behind the last twice", x.alike(name + 1, name + 1), Tell.BAD);
        }
        Expect.is("- 1", x.alike(-1, 0), Tell.BAD);
        Expect.is("- 1", x.alike(0, -1), Tell.BAD);
        for (int far : FAR) {
            Expect.is("NAME " + far, x.alike(far, 0), Tell.BAD);
            Expect.is("NAME " + far, x.alike(0, far), Tell.BAD);
        }
    }

    private static void alikeItself() {
        Expect.about("6: two NAMES can be changed for one another: a NAME for itself");
        BranchTrees x = Tell.names(0, 9, 0, 8);
        Tell.row(x, AT_MOST, 5, 3, 2);
        Tell.row(x, EQUAL, 5, 2, 3);
        Expect.is("alike(0, 0)", x.alike(0, 0), 1);
        Expect.is("alike(1, 1)", x.alike(1, 1), 1);
    }

    private static void alikeSpanAndCost() {
        Expect.about("6: the same span, the same factor of THE COST");
        BranchTrees x = Tell.names(0, 5, 0, 5, 0, 6, 1, 5, 0, 5, -5, 0);
        Tell.costs(x, 3, 3, 3, 3, -3, 3);
        int[] due = {1, 1, 0, 0, 0, 0};
        for (int name = 0; name < 6; name++) {
            Expect.is("alike(0, " + name + ")", x.alike(0, name), due[name]);
            Expect.is("alike(" + name + ", 0)", x.alike(name, 0), due[name]);
        }
    }

    private static void alikeRowsAsOften() {
        Expect.about("6: all ROWS .. with both factors changed in each, are the same ROWS (as often each)");
        BranchTrees x = Tell.sameNames(3, 0, 5);
        Expect.is("no ROWS", x.alike(0, 1), 1);
        x.row(AT_MOST, 4);
        Expect.is("an empty ROW", x.alike(0, 1), 1);
        Tell.row(x, AT_MOST, 4, 2, 2, 1);
        Expect.is("like factors", x.alike(0, 1), 1);
        Expect.is("another", x.alike(0, 2), 0);
        Tell.row(x, AT_MOST, 4, 1, 2);
        Expect.is("one ROW", x.alike(0, 1), 0);
        Tell.row(x, AT_MOST, 4, 2, 1);
        Expect.is("and the other", x.alike(0, 1), 1);
        Tell.row(x, AT_MOST, 4, 2, 1);
        Expect.is("and the other again", x.alike(0, 1), 0);
        int last = Tell.row(x, AT_MOST, 4, 1, 2);
        Expect.is("two of each", x.alike(0, 1), 1);
        x.factor(last, 2, 1);
        Expect.is("another factor of a third", x.alike(0, 1), 0);
        x.factor(last, 2, 0);
        Tell.row(x, AT_LEAST, 4, 1, 2);
        Tell.row(x, EQUAL, 4, 2, 1);
        Expect.is("another sense", x.alike(0, 1), 0);
        Tell.row(x, AT_LEAST, 4, 2, 1);
        Tell.row(x, EQUAL, 4, 1, 2);
        Expect.is("all senses", x.alike(0, 1), 1);
        Tell.row(x, AT_MOST, 6, 1, 2);
        Tell.row(x, AT_MOST, 7, 2, 1);
        Expect.is("another right side", x.alike(0, 1), 0);
        BranchTrees one = Tell.sameNames(2, 0, 5);
        Tell.row(one, AT_MOST, 4, 1, 2);
        Expect.is("one ROW alone", one.alike(0, 1), 0);
        Tell.row(one, AT_MOST, 4, 2, 1);
        Expect.is("two ROWS", one.alike(0, 1), 1);
        BranchTrees later = Tell.sameNames(3, 0, 5);
        Tell.row(later, EQUAL, 4, 7, 1, 2);
        Tell.row(later, EQUAL, 4, 8, 2, 1);
        Expect.is("another factor of the first", later.alike(1, 2), 0);
        later.factor(1, 0, 7);
        Expect.is("the same factor of the first", later.alike(1, 2), 1);
    }

    private static void alikeRowsThatAreOrders() {
        Expect.about("6, 7: ROWS that are no ORDERS (alike() looks at other ROWS alone)");
        BranchTrees x = Tell.sameNames(3, 0, 5);
        Expect.is("order()", x.order(), 2);
        Expect.is("alike(0, 1)", x.alike(0, 1), 1);
        Expect.is("alike(0, 2)", x.alike(0, 2), 1);
        Tell.row(x, AT_MOST, 0, 1, -1);
        Expect.is("a ROW that says what an ORDER says", x.alike(0, 1), 0);
        Tell.row(x, AT_MOST, 0, -1, 1);
        Expect.is("and its other", x.alike(0, 1), 1);
        x.factor(0, 0, 7);
        Expect.is("an ORDER that was changed", x.alike(0, 1), 1);
    }

    private static void orderOfFewNames() {
        Expect.about("7: how many came: none");
        BranchTrees x = new BranchTrees();
        Expect.is("no NAMES", x.order(), 0);
        x.name(0, 9);
        Expect.is("one NAME", x.order(), 0);
        x.name(0, 8);
        Expect.is("none alike", x.order(), 0);
        Expect.is("ROWS", x.count(1), 0);
        x.name(0, 9);
        Expect.is("two alike", x.order(), 1);
        Expect.is("ROWS then", x.count(1), 1);
    }

    private static void orderOfTheNextGreater() {
        Expect.about("7: for each NAME, by number, and the next greater one that is alike");
        BranchTrees x = Tell.names(0, 4, 0, 5, 0, 4, 0, 5, 0, 4, 0, 4, 0, 6, 0, 5);
        int[][] due = {{0, 2}, {1, 3}, {2, 4}, {3, 7}, {4, 5}};
        Expect.is("order()", x.order(), due.length);
        Expect.is("ROWS", x.count(1), due.length);
        Expect.is("ORDERS", x.count(2), due.length);
        for (int row = 0; row < due.length; row++) {
            for (int name = 0; name < 8; name++) {
                int f = name == due[row][0] ? 1 : name == due[row][1] ? -1 : 0;
                Expect.is("factor of " + name + " in " + row, x.factor(row, name, f), f);
            }
        }
    }

    private static void orderNotAbove() {
        Expect.about("7: a ROW that the first is not above the second");
        int[][] due = {{3, 2, 0}, {3, 3, 1}, {2, 3, 1}, {9, 8, 0}, {0, 9, 1}};
        for (int[] one : due) {
            BranchTrees x = Tell.sameNames(2, 0, 9);
            x.order();
            Expect.is(one[0] + " and " + one[1], Tell.offer(x, one[0], one[1]), one[2]);
        }
    }

    private static void orderAsLongAsThereIsRoom() {
        Expect.about("7: as long as there is room: how many came");
        for (int rows = 8; rows <= 16; rows++) {
            BranchTrees x = Tell.sameNames(8, 0, 4);
            Tell.emptyRows(x, rows);
            int came = Math.min(7, 16 - rows);
            Expect.is("order() after " + rows, x.order(), came);
            Expect.is("ROWS after " + rows, x.count(1), rows + came);
            Expect.is("ORDERS after " + rows, x.count(2), came);
            if (came > 0) {
                Expect.is("the last is of", x.factor(rows + came - 1, came - 1, 1), 1);
                Expect.is("and of", x.factor(rows + came - 1, came, -1), -1);
            }
        }
    }

    private static void orderAlready() {
        Expect.about("7: NONE: there are ORDERS already");
        BranchTrees x = Tell.sameNames(2, 0, 4);
        Expect.is("order()", x.order(), 1);
        Expect.is("again", x.order(), Tell.NONE);
        x.name(0, 4);
        x.factor(0, 0, 0);
        x.factor(0, 1, 0);
        Expect.is("though another NAME came", x.order(), Tell.NONE);
        Expect.is("ORDERS", x.count(2), 1);
        BranchTrees full = Tell.sameNames(4, 0, 4);
        Tell.emptyRows(full, 15);
        Expect.is("room for one", full.order(), 1);
        Expect.is("again", full.order(), Tell.NONE);
        BranchTrees none = Tell.sameNames(4, 0, 4);
        Tell.emptyRows(none, 16);
        Expect.is("no room", none.order(), 0);
        Expect.is("no room again, no ORDERS", none.order(), 0);
    }

    private static void ruleValues() {
        Expect.about("8: 0 PICKING (0 .. 2), 1 CHOOSING (0 .. 3), 2 the side (0, 1): what it was");
        int[] last = {2, 3, 1};
        BranchTrees x = new BranchTrees();
        for (int what = 0; what < 3; what++) {
            for (int v = 0; v <= last[what]; v++) {
                Expect.is("rule(" + what + ", " + v + ")", x.rule(what, v), Math.max(0, v - 1));
            }
        }
        for (int what = 0; what < 3; what++) {
            Expect.is("each by itself", x.rule(what, 0), last[what]);
        }
    }

    private static void ruleNoneSuch() {
        Expect.about("8: BAD: none such");
        BranchTrees x = new BranchTrees();
        int[][] bad = {{0, 3}, {1, 4}, {2, 2}, {0, -1}, {1, -1}, {2, -1}, {-1, 0}, {3, 0}};
        for (int[] one : bad) {
            Expect.is("rule(" + one[0] + ", " + one[1] + ")", x.rule(one[0], one[1]), Tell.BAD);
        }
        for (int far : FAR) {
            Expect.is("what " + far, x.rule(far, 0), Tell.BAD);
            for (int what = 0; what < 3; what++) {
                Expect.is("v " + far, x.rule(what, far), Tell.BAD);
            }
        }
    }

    private static void startValues() {
        Expect.about("9: A value for START .. what it was. BAD (- 1,000): .. not - 50 .. 50");
        BranchTrees x = Tell.names(1, 3);
        Expect.is("50, above the span", x.start(0, 50), 0);
        Expect.is("51", x.start(0, 51), Tell.BAD_VALUE);
        Expect.is("- 50, below the span", x.start(0, -50), 50);
        Expect.is("- 51", x.start(0, -51), Tell.BAD_VALUE);
        for (int far : FAR) {
            Expect.is("v " + far, x.start(0, far), Tell.BAD_VALUE);
        }
        Expect.is("2", x.start(0, 2), -50);
    }

    private static void startOfNoName() {
        Expect.about("9: BAD (- 1,000): no such NAME");
        BranchTrees x = new BranchTrees();
        Expect.is("without NAMES", x.start(0, 1), Tell.BAD_VALUE);
        for (int name = 0; name < 8; name++) {
            x.name(0, 9);
            Expect.is("- 1", x.start(-1, 1), Tell.BAD_VALUE);
            Expect.is("the last", x.start(name, 1), 0);
            Expect.is("behind the last", x.start(name + 1, 1), Tell.BAD_VALUE);
        }
        for (int far : FAR) {
            Expect.is("NAME " + far, x.start(far, 1), Tell.BAD_VALUE);
        }
    }

    private static void startZeroAtFirst() {
        Expect.about("9: START (0 at first, of each NAME)");
        BranchTrees x = Tell.names(-1, 0, 0, 1);
        Expect.is("0 is in both spans", x.offer(), 1);
        Expect.is("best(0)", x.best(0), 0);
        Expect.is("best(1)", x.best(1), 0);
        x.start(0, -1);
        x.name(1, 2);
        Expect.is("0 is not in the third", x.offer(), 0);
        Expect.is("of the third", x.start(2, 1), 0);
        Expect.is("of the first still", x.start(0, 0), -1);
    }

    private static void offerBelowBest() {
        Expect.about("10: a PLAN with a COST below B .. 1, else 0");
        BranchTrees x = Tell.names(-9, 9);
        x.cost(0, 2);
        Expect.is("10", Tell.offer(x, 5), 1);
        int[][] due = {{6, 0, 10}, {5, 0, 10}, {4, 1, 8}, {4, 0, 8}, {-1, 1, -2}, {0, 0, -2}, {-10, 0, -2}, {-9, 1, -18}};
        for (int[] one : due) {
            Expect.is("offer() of " + one[0], Tell.offer(x, one[0]), one[1]);
            Expect.is("B then", x.best(-1), one[2]);
        }
    }

    private static void offerWithoutBest() {
        Expect.about("10: (or there is no BEST)");
        BranchTrees x = Tell.sameNames(8, 50, 50);
        for (int name = 0; name < 8; name++) {
            x.cost(name, 20);
        }
        Expect.is("not a PLAN", x.offer(), 0);
        Expect.is("no BEST", x.count(6), 0);
        Expect.is("the greatest COST", Tell.offer(x, 50, 50, 50, 50, 50, 50, 50, 50), 1);
        Expect.is("B", x.best(-1), 8_000);
        x.row(AT_MOST, 0);
        Expect.is("the BEST went", x.offer(), 1);
    }

    private static void offerWithoutNames() {
        Expect.about("10: START, if it is a PLAN: without NAMES");
        BranchTrees x = new BranchTrees();
        Expect.is("nothing is amiss", x.offer(), 1);
        Expect.is("B", x.best(-1), 0);
        Expect.is("not below B", x.offer(), 0);
        x.row(AT_LEAST, 1);
        Expect.is("0 is not at least 1", x.offer(), 0);
    }

    private static void runOtherNumber() {
        Expect.about("11: so many (1 .. 300) .. BAD: another number");
        BranchTrees x = Tell.names(0, 9);
        Expect.is("0", x.run(0), Tell.BAD);
        Expect.is("- 1", x.run(-1), Tell.BAD);
        Expect.is("301", x.run(301), Tell.BAD);
        for (int far : FAR) {
            Expect.is("" + far, x.run(far), Tell.BAD);
        }
        Expect.is("no TREE", x.count(3), 0);
        Expect.is("1", x.run(1), 2);
        Expect.is("WORKED at", x.count(5), 1);
        Expect.is("300", x.run(300), 1);
        Expect.is("301 with a TREE", x.run(301), Tell.BAD);
        Expect.is("0 with a TREE", x.run(0), Tell.BAD);
    }

    private static void runWithoutNames() {
        Expect.about("11: BAD: .. no NAMES");
        BranchTrees x = new BranchTrees();
        Expect.is("run(1)", x.run(1), Tell.BAD);
        x.row(AT_LEAST, 5);
        Expect.is("run(300)", x.run(300), Tell.BAD);
        Expect.is("no TREE", x.count(3), 0);
        Expect.is("check()", x.check(), Tell.BAD);
        x.name(0, 0);
        Expect.is("with a NAME", x.run(1), 0);
    }

    /** 511 NODES, of which 255 are parted and 256 have one value of each NAME. */
    private static BranchTrees halves() {
        BranchTrees x = Tell.sameNames(8, 0, 1);
        x.rule(0, 2);
        return x;
    }

    private static void runSoManyAtMost() {
        Expect.about("11: NODES are picked and WORKED at, so many .. at most");
        BranchTrees x = halves();
        int[][] due = {{1, 2, 1, 3}, {2, 2, 3, 7}, {252, 2, 255, 511}, {45, 2, 300, 511}, {210, 2, 510, 511},
            {1, 1, 511, 511}, {300, 1, 511, 511}};
        for (int[] one : due) {
            Expect.is("run(" + one[0] + ")", x.run(one[0]), one[1]);
            Expect.is("WORKED at", x.count(5), one[2]);
            Expect.is("NODES", x.count(3), one[3]);
        }
        BranchTrees y = halves();
        Expect.is("run(300) at once", y.run(300), 2);
        Expect.is("WORKED at", y.count(5), 300);
        Expect.is("run(300), less are open", y.run(300), 1);
        Expect.is("WORKED at in all", y.count(5), 511);
    }

    private static void runNoneOpenWithBest() {
        Expect.about("11: 1: none is open, there is a BEST");
        BranchTrees x = Tell.names(5, 5);
        Expect.is("the root is a PLAN", x.run(1), 1);
        Expect.is("nothing is left", x.run(1), 1);
        Expect.is("WORKED at", x.count(5), 1);
        x.restart();
        Expect.is("the root is closed by the BEST", x.run(1), 1);
        Expect.is("none WORKED at", x.count(5), 0);
        Expect.is("STATE", x.node(0, 4), 2);
    }

    private static void runNoneOpenWithoutBest() {
        Expect.about("11: 0: none is open, there is none");
        BranchTrees x = Tell.names(5, 5);
        Tell.row(x, AT_MOST, 4, 1);
        Expect.is("the root is closed", x.run(1), 0);
        Expect.is("still", x.run(300), 0);
        Expect.is("none WORKED at", x.count(5), 0);
        BranchTrees y = Tell.sameNames(3, 0, 2);
        Tell.row(y, EQUAL, 3, 2, 2, 2);
        Expect.is("both halves are closed", y.run(1), 0);
        Expect.is("one WORKED at", y.count(5), 1);
    }

    private static void runSomeOpen() {
        Expect.about("11: 2: some are open");
        BranchTrees x = Tell.names(0, 1);
        int[] due = {2, 2, 1};
        for (int calls = 0; calls < due.length; calls++) {
            Expect.is("run(1), time " + calls, x.run(1), due[calls]);
            Expect.is("open ones", x.count(4), 2 - calls);
        }
    }

    private static void runFull() {
        Expect.about("11: FULL: a NODE to be parted finds no room for two (it stays open, and was not WORKED at)");
        BranchTrees x = Tell.sameNames(8, -50, 50);
        x.rule(0, 2);
        Expect.is("run(298)", x.run(298), 2);
        Expect.is("room for two", x.run(1), 2);
        Expect.is("NODES", x.count(3), 599);
        for (int again = 0; again < 2; again++) {
            Expect.is("no room for two", x.run(1), Tell.FULL);
            Expect.is("NODES still", x.count(3), 599);
            Expect.is("open", x.count(4), 300);
            Expect.is("WORKED at", x.count(5), 299);
            Expect.is("STATE of 299", x.node(299, 4), 0);
            Expect.is("parted by none", x.node(299, 7), Tell.NONE);
        }
        BranchTrees y = Tell.fullTree();
        Expect.is("WORKED at before it was full", y.count(5), 299);
        Expect.is("the PRICE is of 299 as well", y.price(0), x.price(0));
    }

    private static void runWithoutRoomForWhatIsNotParted() {
        Expect.about("11: FULL: a NODE to be parted .. another needs no room");
        BranchTrees x = Tell.fullTree();
        x.offer();
        Expect.is("299 of 300 are closed by the COST", x.run(299), 2);
        Expect.is("the last", x.run(1), 1);
        Expect.is("closed by the COST", x.count(8), 300);
        Expect.is("WORKED at", x.count(5), 599);
        BranchTrees plan = fullTreeWithAPlan();
        plan.rule(0, 2);
        Expect.is("a PLAN", plan.run(1), 2);
        Expect.is("STATE", plan.node(2, 4), 4);
        Expect.is("WORKED at", plan.count(5), 300);
        Expect.is("NODES", plan.count(3), 599);
    }

    /** A full TREE whose NODE 2 has one value of each NAME and the greatest LOWER of all. */
    private static BranchTrees fullTreeWithAPlan() {
        BranchTrees x = Tell.names(0, 1);
        for (int name = 1; name < 8; name++) {
            x.name(-20, 20);
            // When the first is 1, this one is neither above nor below 0.
            for (int sign = -1; sign <= 1; sign += 2) {
                int row = x.row(AT_MOST, 20);
                x.factor(row, 0, 20);
                x.factor(row, name, sign);
            }
        }
        x.cost(0, 1);
        x.rule(0, 1);
        Expect.is("run(300)", x.run(300), Tell.FULL);
        Expect.is("2 is open", x.node(2, 4), 0);
        return x;
    }

    private static void restartWithoutTree() {
        Expect.about("12: how many NODES it had: none");
        BranchTrees x = new BranchTrees();
        Expect.is("a new object", x.restart(), 0);
        x.name(0, 9);
        Expect.is("no TREE yet", x.restart(), 0);
        x.run(1);
        Expect.is("3 NODES", x.restart(), 3);
        Expect.is("again", x.restart(), 0);
        x.run(1);
        x.cost(0, 1);
        Expect.is("the TREE went", x.restart(), 0);
    }

    private static void restartManyNodes() {
        Expect.about("12: The TREE goes .. how many NODES it had");
        BranchTrees x = Tell.fullTree();
        Expect.is("a full one", x.restart(), 599);
        Expect.is("NODES", x.count(3), 0);
        Expect.is("node(0, 0)", x.node(0, 0), Tell.BAD_COST);
        Expect.is("run(300) anew", x.run(300), Tell.FULL);
        Expect.is("NODES anew", x.count(3), 599);
        BranchTrees one = Tell.names(5, 5);
        one.run(1);
        Expect.is("the root alone", one.restart(), 1);
    }

    private static void restartKeepsBestAndPrices() {
        Expect.about("12: BEST and PRICES stay");
        BranchTrees x = Tell.names(0, 9);
        x.cost(0, 2);
        x.run(300);
        int price = x.price(0);
        Expect.holds("a PRICE", price > 0);
        x.restart();
        Expect.is("PRICE", x.price(0), price);
        Expect.is("BEST", x.best(-1), 0);
        Expect.is("its value", x.best(0), 0);
        Expect.is("count(6)", x.count(6), 1);
    }

    private static void bestNone() {
        Expect.about("13: BAD (- 1,000,000): there is none");
        BranchTrees x = Tell.names(0, 9);
        for (int name = -2; name <= 1; name++) {
            Expect.is("best(" + name + ")", x.best(name), Tell.BAD_COST);
        }
        x.run(1);
        Expect.is("with a TREE", x.best(-1), Tell.BAD_COST);
        x.run(300);
        Expect.is("found", x.best(-1), 0);
        x.row(AT_MOST, 0);
        Expect.is("it went", x.best(-1), Tell.BAD_COST);
    }

    private static void bestOfNoName() {
        Expect.about("13: a value (- 1: its COST). BAD (- 1,000,000): .. no such NAME");
        BranchTrees x = new BranchTrees();
        for (int name = 0; name < 8; name++) {
            x.name(name - 9, name - 9);
            x.cost(name, 1);
            x.run(1);
            Expect.is("- 1", x.best(-1), (name + 1) * (name - 18) / 2);
            Expect.is("- 2", x.best(-2), Tell.BAD_COST);
            Expect.is("the last", x.best(name), name - 9);
            Expect.is("behind the last", x.best(name + 1), Tell.BAD_COST);
        }
        for (int far : FAR) {
            Expect.is("NAME " + far, x.best(far), Tell.BAD_COST);
        }
    }

    private static void boundWithoutTree() {
        Expect.about("14: BAD (- 1,000,000): no TREE");
        BranchTrees x = new BranchTrees();
        Expect.is("a new object", x.bound(), Tell.BAD_COST);
        x.name(0, 9);
        Expect.is("no TREE yet", x.bound(), Tell.BAD_COST);
        x.offer();
        Expect.is("though there is a BEST", x.bound(), Tell.BAD_COST);
        x.run(1);
        Expect.is("a TREE", x.bound(), 0);
        x.restart();
        Expect.is("it went", x.bound(), Tell.BAD_COST);
    }

    private static void boundOfOpenNodesAlone() {
        Expect.about("14: with NODES that are open: the least LOWER of these");
        BranchTrees x = Tell.names(0, 7);
        x.cost(0, 1);
        x.rule(2, 1);
        x.run(2);
        Expect.is("4 .. 7, 2 .. 3 and 0 .. 1 are open", x.bound(), 0);
        Tell.row(x, AT_LEAST, 5, 1);
        x.run(1);
        Expect.is("7 and 5 .. 6 are open, none of the TREE before", x.bound(), 5);
    }

    private static void boundNotAboveBest() {
        Expect.about("14: with NODES that are open: the least LOWER of these, but not above B");
        BranchTrees x = Tell.names(0, 7);
        x.cost(0, 1);
        x.rule(2, 1);
        x.run(1);
        Expect.is("without BEST", x.bound(), 0);
        Tell.offer(x, 7);
        Expect.is("B is 7", x.bound(), 0);
        Tell.offer(x, 2);
        Expect.is("B is 2", x.bound(), 0);
        // 0 .. 3 has the greatest number; its halves are 2 .. 3, which B closes, and 0 .. 1.
        x.run(1);
        x.run(1);
        x.run(1);
        Expect.is("B is 0", x.best(-1), 0);
        Expect.is("4 .. 7 is open", x.node(1, 4), 0);
        Expect.is("its LOWER is above B", x.node(1, 5), 4);
        Expect.is("bound()", x.bound(), 0);
        BranchTrees y = Tell.names(3, 9);
        y.cost(0, 1);
        y.run(1);
        Tell.offer(y, 5);
        y.rule(0, 2);
        Expect.is("3 .. 6 is open", y.bound(), 3);
    }

    private static void boundNoneOpen() {
        Expect.about("14: without: B");
        BranchTrees x = Tell.names(-7, 7);
        x.cost(0, 20);
        x.run(300);
        Expect.is("bound()", x.bound(), -140);
        x.restart();
        x.run(1);
        Expect.is("the root is closed", x.bound(), -140);
    }

    private static void boundWithoutBestToo() {
        Expect.about("14: without BEST, too: 1,000,000");
        BranchTrees x = Tell.names(0, 9);
        Tell.row(x, AT_LEAST, 10, 1);
        x.run(1);
        Expect.is("the root is closed", x.bound(), 1_000_000);
        BranchTrees y = Tell.sameNames(3, 0, 2);
        Tell.row(y, EQUAL, 3, 2, 2, 2);
        y.run(1);
        Expect.is("both halves are closed", y.bound(), 1_000_000);
    }

    private static void nodeNoneSuch() {
        Expect.about("15: BAD (- 1,000,000): none such");
        BranchTrees x = Tell.names(0, 9);
        Expect.is("no TREE", x.node(0, 0), Tell.BAD_COST);
        x.run(1);
        for (int what = 0; what <= 8; what++) {
            Expect.is("node(-1, " + what + ")", x.node(-1, what), Tell.BAD_COST);
            Expect.is("node(3, " + what + ")", x.node(3, what), Tell.BAD_COST);
            Expect.holds("node(2, " + what + ")", x.node(2, what) != Tell.BAD_COST);
        }
        Expect.is("node(0, -1)", x.node(0, -1), Tell.BAD_COST);
        Expect.is("node(0, 9)", x.node(0, 9), Tell.BAD_COST);
        for (int far : FAR) {
            Expect.is("NODE " + far, x.node(far, 0), Tell.BAD_COST);
            Expect.is("what " + far, x.node(0, far), Tell.BAD_COST);
        }
        BranchTrees full = Tell.fullTree();
        Expect.is("STATE of 598", full.node(598, 4), 0);
        Expect.is("599 of 599", full.node(599, 4), Tell.BAD_COST);
        Expect.is("600 of 599", full.node(600, 4), Tell.BAD_COST);
        full.restart();
        full.run(1);
        Expect.is("3 of a new TREE", full.node(3, 4), Tell.BAD_COST);
    }

    private static void nodeOfTheRoot() {
        Expect.about("15: 0 parent (- 1), 1 NAME (- 1 of the root), 2 side, 3 v (of the root 0 both)");
        BranchTrees x = Tell.names(3, 9);
        x.rule(2, 1);
        x.run(1);
        int[][] due = {{-1, -1, 0, 0}, {0, 0, 1, 7}, {0, 0, 0, 6}};
        for (int i = 0; i < 3; i++) {
            for (int what = 0; what <= 3; what++) {
                Expect.is("node(" + i + ", " + what + ")", x.node(i, what), due[i][what]);
            }
        }
        x.restart();
        x.run(1);
        Expect.is("v of a new root", x.node(0, 3), 0);
    }

    /** Each half is closed by ROW 1, the first half after it was narrowed by ROW 0. */
    private static BranchTrees closedHalf() {
        BranchTrees x = Tell.names(0, 1, 0, 1);
        Tell.row(x, AT_LEAST, 1, 1, 1);
        Tell.row(x, AT_LEAST, 0, 1, -1);
        Tell.costs(x, 3, 20);
        x.run(1);
        return x;
    }

    private static void nodeClosedAsFarAsItCame() {
        Expect.about("15: 5 LOWER (of a closed one as far as it came), 6 the row that closed it (NONE)");
        BranchTrees x = closedHalf();
        Expect.is("STATE", x.node(1, 4), 2);
        Expect.is("LOWER", x.node(1, 5), 20);
        Expect.is("the row", x.node(1, 6), 1);
        Expect.is("LOWER of the other", x.node(2, 5), 3);
        Expect.is("no row closed the other", x.node(2, 6), Tell.NONE);
        Expect.is("no row closed the root", x.node(0, 6), Tell.NONE);
    }

    private static void nodeNotClosedNotParted() {
        Expect.about("15: 6 .. (NONE), 7 the NAME by which it was parted (NONE)");
        BranchTrees x = Tell.names(4, 4, 0, 1);
        x.run(300);
        int[][] due = {{1, Tell.NONE, 1}, {3, Tell.NONE, Tell.NONE}, {4, Tell.NONE, Tell.NONE}};
        for (int i = 0; i < 3; i++) {
            Expect.is("STATE of " + i, x.node(i, 4), due[i][0]);
            Expect.is("closed by, of " + i, x.node(i, 6), due[i][1]);
            Expect.is("parted by, of " + i, x.node(i, 7), due[i][2]);
        }
        x.restart();
        x.run(1);
        Expect.is("STATE of a new root", x.node(0, 4), 2);
        Expect.is("parted by, of a new root", x.node(0, 7), Tell.NONE);
        Expect.is("closed by, of a new root", x.node(0, 6), 16);
    }

    private static void nodeDeep() {
        Expect.about("15: 8 how deep (0 the root)");
        BranchTrees x = Tell.sameNames(8, -50, 50);
        // The greatest number is picked each time, so each pair is below the last of the pair before.
        x.run(40);
        Expect.is("the root", x.node(0, 8), 0);
        for (int deep = 1; deep <= 40; deep++) {
            Expect.is("the first of two", x.node(2 * deep - 1, 8), deep);
            Expect.is("the second of two", x.node(2 * deep, 8), deep);
        }
    }

    private static void boundOfNoneSuch() {
        Expect.about("16: BAD (- 1,000): none such");
        BranchTrees x = Tell.names(0, 9);
        Expect.is("no TREE", x.boundOf(0, 0, 0), Tell.BAD_VALUE);
        x.run(1);
        int[][] bad = {{-1, 0, 0}, {3, 0, 0}, {0, -1, 0}, {0, 1, 0}, {0, 0, -1}, {0, 0, 2}};
        for (int[] one : bad) {
            Expect.is("boundOf(" + one[0] + ", " + one[1] + ", " + one[2] + ")",
                x.boundOf(one[0], one[1], one[2]), Tell.BAD_VALUE);
        }
        for (int far : FAR) {
            Expect.is("NODE " + far, x.boundOf(far, 0, 0), Tell.BAD_VALUE);
            Expect.is("NAME " + far, x.boundOf(0, far, 0), Tell.BAD_VALUE);
            Expect.is("side " + far, x.boundOf(0, 0, far), Tell.BAD_VALUE);
        }
        Expect.is("boundOf(2, 0, 1)", x.boundOf(2, 0, 1), 5);
        BranchTrees full = Tell.fullTree();
        Expect.is("NAME 7 of 598", full.boundOf(598, 7, 0), 50);
        Expect.is("NAME 8 of 598", full.boundOf(598, 8, 0), Tell.BAD_VALUE);
        Expect.is("599 of 599", full.boundOf(599, 7, 0), Tell.BAD_VALUE);
    }

    private static void boundOfClosedAsFarAsItCame() {
        Expect.about("16: l (side 1) or u (side 0) .. (of a closed one as far as it came)");
        BranchTrees x = closedHalf();
        int[][] due = {{0, 0}, {1, 1}};
        for (int name = 0; name < 2; name++) {
            Expect.is("l of " + name, x.boundOf(1, name, 1), due[name][0]);
            Expect.is("u of " + name, x.boundOf(1, name, 0), due[name][1]);
        }
        BranchTrees y = Tell.names(0, 9);
        Tell.row(y, AT_MOST, 7, 1);
        Tell.row(y, AT_LEAST, 8, 1);
        y.run(1);
        Expect.is("l", y.boundOf(0, 0, 1), 0);
        Expect.is("u", y.boundOf(0, 0, 0), 7);
    }

    private static void priceOfNoName() {
        Expect.about("17: BAD: none such");
        BranchTrees x = new BranchTrees();
        Expect.is("without NAMES", x.price(0), Tell.BAD);
        for (int name = 0; name < 8; name++) {
            x.name(0, 9);
            Expect.is("- 1", x.price(-1), Tell.BAD);
            Expect.is("the last", x.price(name), 0);
            Expect.is("behind the last", x.price(name + 1), Tell.BAD);
        }
        for (int far : FAR) {
            Expect.is("NAME " + far, x.price(far), Tell.BAD);
        }
    }

    private static void checkWithoutTree() {
        Expect.about("18: BAD: no TREE");
        BranchTrees x = new BranchTrees();
        Expect.is("a new object", x.check(), Tell.BAD);
        x.name(0, 9);
        x.offer();
        Expect.is("though there is a BEST", x.check(), Tell.BAD);
        x.run(300);
        Expect.is("a TREE", x.check(), 1);
        x.restart();
        Expect.is("it went", x.check(), Tell.BAD);
    }

    private static void checkSomeOpen() {
        Expect.about("18: none is open");
        BranchTrees x = halves();
        for (int worked : new int[] {1, 254, 255}) {
            x.run(worked);
            Expect.is("some are open", x.check(), 0);
        }
        Expect.is("the last", x.run(1), 1);
        Expect.is("none is open", x.check(), 1);
        Expect.is("of a full one", Tell.fullTree().check(), 0);
    }

    private static void checkClosedRoot() {
        Expect.about("18: each other one .. is CLOSED: the root");
        BranchTrees x = Tell.names(0, 9);
        Tell.row(x, AT_LEAST, 10, 1);
        x.run(1);
        Expect.is("by a row", x.check(), 1);
        BranchTrees y = Tell.names(5, 5);
        y.run(1);
        Expect.is("by its PLAN", y.check(), 1);
        y.restart();
        y.run(1);
        Expect.is("by the BEST", y.check(), 1);
    }

    private static void checkPlans() {
        Expect.about("18: NARROWED with the BEST that there is now");
        BranchTrees x = Tell.names(0, 9);
        x.cost(0, 1);
        x.run(300);
        Expect.holds("several PLANS, one after the other", x.count(9) > 1);
        Expect.is("check()", x.check(), 1);
        Expect.is("check() again", x.check(), 1);
        BranchTrees y = Tell.fullTree();
        y.offer();
        y.run(300);
        Expect.is("closed by a PLAN that came from outside", y.check(), 1);
    }

    private static void checkAllThatStandsOnItsWay() {
        Expect.about("18: its bounds cut from the spans on by all that stands on its way");
        for (int side = 0; side < 2; side++) {
            for (int picking = 0; picking < 3; picking++) {
                BranchTrees x = Tell.sameNames(4, 0, 3);
                Tell.row(x, EQUAL, 7, 2, 2, 2, 2);
                x.rule(0, picking);
                x.rule(2, side);
                Expect.is("run(300)", x.run(300), 0);
                Expect.holds("many are parted", x.count(5) > 5);
                Expect.is("check()", x.check(), 1);
            }
            // Where 0 is in no span and would be better than all PLANS.
            BranchTrees above = Tell.names(3, 9, 4, 4);
            Tell.costs(above, 1, 2);
            above.rule(2, side);
            above.run(300);
            Expect.is("spans above 0", above.check(), 1);
            BranchTrees below = Tell.names(-9, -3, -4, -4);
            Tell.costs(below, -1, -2);
            below.rule(2, side);
            below.run(300);
            Expect.is("spans below 0", below.check(), 1);
        }
    }

    private static void countOtherNumber() {
        Expect.about("19: BAD: another number");
        BranchTrees x = new BranchTrees();
        Expect.is("- 1", x.count(-1), Tell.BAD);
        Expect.is("10", x.count(10), Tell.BAD);
        for (int far : FAR) {
            Expect.is("" + far, x.count(far), Tell.BAD);
        }
    }

    private static void countOfNothing() {
        Expect.about("19: of a new object");
        BranchTrees x = new BranchTrees();
        for (int what = 0; what <= 9; what++) {
            Expect.is("count(" + what + ")", x.count(what), 0);
        }
    }

    private static void countWorkedSinceTheTreeBegan() {
        Expect.about("19: 5 NODES WORKED at since the TREE began");
        BranchTrees x = Tell.names(0, 9);
        x.run(2);
        Expect.is("count(5)", x.count(5), 2);
        x.restart();
        Expect.is("no TREE", x.count(5), 0);
        x.run(1);
        Expect.is("since it began", x.count(5), 1);
        x.cost(0, 1);
        Expect.is("it went", x.count(5), 0);
        x.run(3);
        Expect.is("since it began again", x.count(5), 3);
    }

    private static void countStates() {
        Expect.about("19: 3 NODES, 4 open ones, .. 7 NODES of STATE 2, 8 of 3, 9 of 4");
        BranchTrees x = Tell.names(0, 9);
        x.cost(0, 1);
        x.run(1);
        Tell.offer(x, 2);
        x.run(2);
        // The root and 0 .. 4 are parted, 5 .. 9 is closed by the COST, 3 .. 4 by row 16; 0 .. 1 is open.
        int[] due = {1, 0, 0, 5, 1, 3, 1, 1, 1, 0};
        for (int what = 0; what <= 9; what++) {
            Expect.is("count(" + what + ")", x.count(what), due[what]);
        }
        // 1 is found before 0.
        x.run(300);
        int[] then = {1, 0, 0, 7, 0, 6, 1, 1, 1, 2};
        for (int what = 0; what <= 9; what++) {
            Expect.is("count(" + what + ") then", x.count(what), then[what]);
        }
    }

    private static void countStateOfTheRoot() {
        Expect.about("19: 7 NODES of STATE 2, .. 9 of 4: the root alone");
        BranchTrees x = Tell.names(5, 5);
        x.run(1);
        Expect.is("a PLAN", x.count(9), 1);
        Expect.is("none closed", x.count(7), 0);
        x.restart();
        x.run(1);
        Expect.is("no PLAN", x.count(9), 0);
        Expect.is("closed", x.count(7), 1);
    }
}
