/** Each sentence of 'Terms' that names a boundary case, with a test of its own. */
public final class BoundaryTermsTest {
    private static final int AT_MOST = 0, AT_LEAST = 1, EQUAL = 2;
    private static final int LOW = 1, HIGH = 0;

    private BoundaryTermsTest() {
    }

    public static void main(String[] args) {
        problem();
        narrowing();
        tree();
        work();
        picking();
        prices();
        whatGoes();
        whichIsAnswered();
        useOfAnObject();
        Expect.end();
    }

    private static void problem() {
        namesAreZeroToSeven();
        rowsAreZeroToFifteen();
        factorsAreZeroAtFirst();
        sumIsThatToTheRightSide();
        sumsAreNeverTooGreat();
        planIsInEverySpan();
        planKeepsEveryRow();
        bestGivesWayOnlyToLess();
    }

    private static void narrowing() {
        roundsGoOnTillOneChangesNothing();
        roundsGoOnTillClosed();
        rowsComeByNumber();
        equalIsAtMostThenAtLeast();
        atLeastIsTimesMinusOne();
        costComesOnlyWithABest();
        costComesAfterTheRows();
        leastAboveTheRightSideCloses();
        highIsDownwards();
        lowIsUpwards();
        restIsWithoutTheName();
        factorsOfZeroNarrowNothing();
        closedEndsIt();
        lowerIsTheLeast();
    }

    private static void tree() {
        nodesAreZeroTo599();
        rootHasTheSpans();
        othersHaveTheirParentsBounds();
        narrowedOnlyWhenMade();
        narrowedWithTheBestThatThereIs();
        closedBySixteenToo();
    }

    private static void work() {
        lowerAtLeastBestCloses();
        allLowsAreHighsIsAPlan();
        planIsTheBestThen();
        middleIsDownwards();
        sideComesFirst();
    }

    private static void picking() {
        likeLowersTheLeastNumber();
        pickingByNumber();
        likeNamesTheLeastNumber();
        onlyNamesWithLowBelowHigh();
        leastSpan();
        costWithoutSign();
    }

    private static void prices() {
        fiftyIfClosed();
        nothingAboveItsOwn();
        priceIsWhole();
        zeroWithout();
    }

    private static void namesAreZeroToSeven() {
        Expect.about("NAMES 0 .. 7, as they are told");
        BranchTrees x = new BranchTrees();
        for (int name = 0; name < 8; name++) {
            Expect.is("name()", x.name(name, name), name);
        }
        Expect.is("a ninth", x.name(8, 8), Tell.FULL);
        Expect.is("run(1)", x.run(1), 1);
        for (int name = 0; name < 8; name++) {
            Expect.is("best(" + name + ")", x.best(name), name);
        }
        Expect.is("best(8)", x.best(8), Tell.BAD_COST);
    }

    private static void rowsAreZeroToFifteen() {
        Expect.about("ROWS 0 .. 15");
        BranchTrees x = Tell.names(0, 9);
        for (int row = 0; row < 15; row++) {
            Expect.is("row()", x.row(AT_MOST, 0), row);
        }
        Expect.is("the sixteenth", x.row(AT_LEAST, 10), 15);
        Expect.is("a seventeenth", x.row(AT_LEAST, 10), Tell.FULL);
        Expect.is("factor(15, 0, 1)", x.factor(15, 0, 1), 0);
        Expect.is("factor(16, 0, 1)", x.factor(16, 0, 1), Tell.BAD_VALUE);
        Expect.is("run(1)", x.run(1), 0);
        Expect.is("closed by", x.node(0, 6), 15);
    }

    private static void factorsAreZeroAtFirst() {
        Expect.about("a factor of each NAME (0 at first)");
        BranchTrees x = new BranchTrees();
        x.row(AT_MOST, 5);
        x.name(7, 9);
        x.row(AT_MOST, 5);
        x.name(7, 9);
        Expect.is("run(1)", x.run(1), 2);
        Expect.is("u", x.boundOf(0, 0, HIGH), 9);
        Expect.is("LOWER", x.node(0, 5), 0);
        for (int name = 0; name < 2; name++) {
            Expect.is("of a ROW before it", x.factor(0, name, 1), 0);
            Expect.is("of a ROW after it", x.factor(1, name, 1), 0);
            Expect.is("of THE COST", x.cost(name, 1), 0);
        }
    }

    private static void sumIsThatToTheRightSide() {
        Expect.about("the sum of factors times values is that to the right side");
        for (int right : new int[] {-7, 0, 7}) {
            for (int sense = AT_MOST; sense <= EQUAL; sense++) {
                for (int beyond = -1; beyond <= 1; beyond++) {
                    boolean kept = sense == AT_MOST ? beyond <= 0 : sense == AT_LEAST ? beyond >= 0 : beyond == 0;
                    String what = "sense " + sense + ", " + (right + beyond) + " to " + right;
                    BranchTrees x = Tell.names(-50, 50);
                    Tell.row(x, sense, right, 1);
                    Expect.is("offer, " + what, Tell.offer(x, right + beyond), kept ? 1 : 0);
                    BranchTrees y = Tell.names(right + beyond, right + beyond);
                    Tell.row(y, sense, right, 1);
                    Expect.is("run, " + what, y.run(1), kept ? 1 : 0);
                }
            }
        }
    }

    private static void sumsAreNeverTooGreat() {
        Expect.about("the greatest sums: 8 NAMES, 20 times 50");
        for (int sign = -1; sign <= 1; sign += 2) {
            BranchTrees x = Tell.sameNames(8, 50, 50);
            int row = x.row(EQUAL, sign * 1_000);
            for (int name = 0; name < 8; name++) {
                x.factor(row, name, sign * 20);
            }
            Expect.is("8,000 is not 1,000", Tell.offer(x, 50, 50, 50, 50, 50, 50, 50, 50), 0);
            Expect.is("run(1)", x.run(1), 0);
            BranchTrees y = Tell.sameNames(8, -50, 50);
            Tell.costs(y, 20, 20, 20, 20, -20, -20, -20, -20);
            Expect.is("offer()", Tell.offer(y, 50, 50, 50, 50, -50, -50, -50, -50), 1);
            Expect.is("the greatest COST", y.best(-1), 8_000);
            Expect.is("offer()", Tell.offer(y, -50, -50, -50, -50, 50, 50, 50, 50), 1);
            Expect.is("the least COST", y.best(-1), -8_000);
            Expect.is("run(1)", y.run(1), 1);
            Expect.is("the least LOWER", y.node(0, 5), -8_000);
        }
    }

    private static void planIsInEverySpan() {
        Expect.about("A PLAN: a value of each NAME in its span");
        int[][] due = {{-4, 0}, {-3, 1}, {4, 1}, {5, 0}};
        for (int[] value : due) {
            for (int name = 0; name < 8; name++) {
                BranchTrees x = Tell.sameNames(8, -3, 4);
                x.start(name, value[0]);
                Expect.is("NAME " + name + " is " + value[0], x.offer(), value[1]);
            }
        }
    }

    private static void planKeepsEveryRow() {
        Expect.about("A PLAN .. keeps all ROWS");
        for (int broken = 0; broken < 16; broken++) {
            BranchTrees x = Tell.names(0, 9);
            for (int row = 0; row < 16; row++) {
                Tell.row(x, AT_MOST, row == broken ? 5 : 6, 1);
            }
            Expect.is("all but ROW " + broken, Tell.offer(x, 6), 0);
            Expect.is("ROW " + broken + ", too", Tell.offer(x, 5), 1);
        }
    }

    private static void bestGivesWayOnlyToLess() {
        Expect.about("one comes in its place only with a COST below B");
        BranchTrees x = Tell.names(-9, 9, 0, 9);
        x.cost(0, 1);
        Expect.is("the first", Tell.offer(x, 5, 1), 1);
        Expect.is("above B", Tell.offer(x, 6, 2), 0);
        Expect.is("like B", Tell.offer(x, 5, 2), 0);
        Expect.is("B's PLAN still", x.best(1), 1);
        Expect.is("below B", Tell.offer(x, 4, 3), 1);
        Expect.is("the PLAN", x.best(1), 3);
        Expect.is("below 0", Tell.offer(x, -1, 4), 1);
        Expect.is("B", x.best(-1), -1);
        BranchTrees y = Tell.names(0, 1);
        Expect.is("run(300)", y.run(300), 1);
        Expect.is("the first found of like ones", y.best(0), 1);
        Expect.is("PLANS", y.count(9), 1);
        Expect.is("closed by the COST", y.count(8), 1);
    }

    /** NAMES that are not above the next one, the ROWS told in an order that hands u on slowly. */
    private static BranchTrees chain() {
        BranchTrees x = Tell.sameNames(8, -50, 50);
        for (int name = 0; name < 7; name++) {
            notAbove(x, name, name + 1, 0);
        }
        return x;
    }

    private static void notAbove(BranchTrees x, int first, int second, int right) {
        int row = x.row(AT_MOST, right);
        x.factor(row, first, 1);
        x.factor(row, second, -1);
    }

    private static void roundsGoOnTillOneChangesNothing() {
        Expect.about("ROUNDS, till one changes nothing");
        BranchTrees x = chain();
        x.factor(x.row(AT_MOST, 3), 7, 1);
        x.run(1);
        for (int name = 0; name < 8; name++) {
            Expect.is("u of " + name, x.boundOf(0, name, HIGH), 3);
        }
    }

    private static void roundsGoOnTillClosed() {
        Expect.about("ROUNDS, till .. CLOSED ends it");
        // A ring in which each would be below itself: a bound comes round by 1 in four ROUNDS.
        BranchTrees x = Tell.sameNames(8, -50, 50);
        for (int name : new int[] {0, 2, 4, 6, 1, 3, 5, 7}) {
            notAbove(x, name, (name + 1) % 8, name == 7 ? -1 : 0);
        }
        Expect.is("run(1)", x.run(1), 0);
        Expect.is("STATE", x.node(0, 4), 2);
    }

    private static void rowsComeByNumber() {
        Expect.about("each ROW by number");
        int[][] rows = {{AT_LEAST, 10}, {AT_MOST, -1}};
        for (int first = 0; first < 2; first++) {
            BranchTrees x = Tell.names(0, 9);
            Tell.row(x, AT_MOST, 8, 1);
            Tell.row(x, rows[first][0], rows[first][1], 1);
            Tell.row(x, rows[1 - first][0], rows[1 - first][1], 1);
            x.run(1);
            Expect.is("closed by", x.node(0, 6), 1);
            Expect.is("u, by the ROW before", x.boundOf(0, 0, HIGH), 8);
        }
    }

    private static void equalIsAtMostThenAtLeast() {
        Expect.about("of sense 2 as at most, then as at least");
        BranchTrees x = Tell.names(0, 9);
        Tell.row(x, EQUAL, 3, 2);
        x.cost(0, -5);
        Expect.is("run(1)", x.run(1), 0);
        Expect.is("closed by", x.node(0, 6), 0);
        Expect.is("l", x.boundOf(0, 0, LOW), 0);
        Expect.is("u", x.boundOf(0, 0, HIGH), 1);
        Expect.is("LOWER", x.node(0, 5), -5);
    }

    private static void atLeastIsTimesMinusOne() {
        Expect.about("at least is all factors and the right side times - 1, at most");
        int[][] due = {{2, 7, 4, 50}, {2, -7, -3, 50}, {-2, 7, -50, -4}, {-2, -7, -50, 3}};
        for (int[] one : due) {
            BranchTrees x = Tell.names(-50, 50);
            Tell.row(x, AT_LEAST, one[1], one[0]);
            x.run(1);
            Expect.is("l, " + one[0] + " at least " + one[1], x.boundOf(0, 0, LOW), one[2]);
            Expect.is("u, " + one[0] + " at least " + one[1], x.boundOf(0, 0, HIGH), one[3]);
        }
    }

    private static void costComesOnlyWithABest() {
        Expect.about("with a BEST, THE COST as a row at most B - 1 (its number is 16)");
        BranchTrees x = Tell.names(0, 9);
        x.cost(0, 1);
        x.run(1);
        Expect.is("u without", x.boundOf(0, 0, HIGH), 9);
        int[][] due = {{5, 4, 1}, {1, 0, 4}};
        for (int[] one : due) {
            x.restart();
            Expect.is("offer()", Tell.offer(x, one[0]), 1);
            x.run(1);
            Expect.is("u with B " + one[0], x.boundOf(0, 0, HIGH), one[1]);
            Expect.is("STATE with B " + one[0], x.node(0, 4), one[2]);
        }
        x.restart();
        Expect.is("B", x.best(-1), 0);
        Expect.is("run(1)", x.run(1), 1);
        Expect.is("STATE with B 0", x.node(0, 4), 2);
        Expect.is("closed by", x.node(0, 6), 16);
    }

    private static void costComesAfterTheRows() {
        Expect.about("each ROW by number .. then, with a BEST, THE COST");
        BranchTrees x = Tell.names(0, 9);
        Tell.row(x, AT_LEAST, 3, 1);
        x.cost(0, 1);
        Tell.offer(x, 3);
        x.run(1);
        Expect.is("closed by", x.node(0, 6), 16);
        Expect.is("l, by the ROW", x.boundOf(0, 0, LOW), 3);
        Expect.is("u, not by THE COST", x.boundOf(0, 0, HIGH), 9);
    }

    private static void leastAboveTheRightSideCloses() {
        Expect.about("LEAST .. above r: CLOSED by this row");
        for (int right = 4; right <= 6; right++) {
            BranchTrees x = Tell.names(5, 9);
            Tell.row(x, AT_MOST, right, 1);
            Expect.is("run(300), at most " + right, x.run(300), right < 5 ? 0 : 1);
            Expect.is("closed by, at most " + right, x.node(0, 6), right < 5 ? 0 : Tell.NONE);
        }
        for (int right = -1; right <= 1; right++) {
            BranchTrees x = Tell.names(5, 5);
            x.row(AT_MOST, right);
            Expect.is("run(1), none at most " + right, x.run(1), right < 0 ? 0 : 1);
        }
    }

    private static void highIsDownwards() {
        Expect.about("f above 0: u is at most (r - REST) / f, whole, downwards");
        int[][] due = {{7, 2}, {6, 2}, {5, 1}, {1, 0}, {0, 0}, {-1, -1}, {-3, -1}, {-4, -2}, {-150, -50}, {150, 50}};
        for (int[] one : due) {
            BranchTrees x = Tell.names(-50, 50);
            Tell.row(x, AT_MOST, one[0], 3);
            x.run(1);
            Expect.is("u, 3 at most " + one[0], x.boundOf(0, 0, HIGH), one[1]);
            Expect.is("l, 3 at most " + one[0], x.boundOf(0, 0, LOW), -50);
        }
    }

    private static void lowIsUpwards() {
        Expect.about("below 0: l is at least (r - REST) / f, whole, upwards");
        int[][] due = {{7, -2}, {6, -2}, {5, -1}, {1, 0}, {0, 0}, {-1, 1}, {-3, 1}, {-4, 2}, {-150, 50}, {150, -50}};
        for (int[] one : due) {
            BranchTrees x = Tell.names(-50, 50);
            Tell.row(x, AT_MOST, one[0], -3);
            x.run(1);
            Expect.is("l, - 3 at most " + one[0], x.boundOf(0, 0, LOW), one[1]);
            Expect.is("u, - 3 at most " + one[0], x.boundOf(0, 0, HIGH), 50);
        }
    }

    private static void restIsWithoutTheName() {
        Expect.about("REST = LEAST .. without it");
        BranchTrees x = Tell.names(2, 20, -9, 20, -20, 4);
        Tell.row(x, AT_MOST, 10, 2, 3, -5);
        x.run(1);
        // LEAST is 4 - 27 - 20 = - 43: REST of 0 is - 47, of 1 is - 16, of 2 is - 23.
        int[][] due = {{2, 20}, {-9, 8}, {-6, 4}};
        for (int name = 0; name < 3; name++) {
            Expect.is("l of " + name, x.boundOf(0, name, LOW), due[name][0]);
            Expect.is("u of " + name, x.boundOf(0, name, HIGH), due[name][1]);
        }
    }

    private static void factorsOfZeroNarrowNothing() {
        Expect.about("for each NAME with a factor f not 0");
        BranchTrees x = Tell.names(-9, 9, -9, 9, -9, 9);
        Tell.row(x, AT_MOST, -3, 0, 1, 0);
        x.run(1);
        for (int name = 0; name < 3; name++) {
            Expect.is("l of " + name, x.boundOf(0, name, LOW), -9);
            Expect.is("u of " + name, x.boundOf(0, name, HIGH), name == 1 ? -3 : 9);
        }
    }

    private static void closedEndsIt() {
        Expect.about("CLOSED ends it");
        BranchTrees x = Tell.names(0, 9, 0, 9);
        Tell.row(x, AT_MOST, 7, 1, 0);
        Tell.row(x, AT_LEAST, 10, 1, 0);
        Tell.row(x, AT_MOST, 5, 1, 1);
        Tell.costs(x, -1, -1);
        Expect.is("run(1)", x.run(1), 0);
        Expect.is("u of 0", x.boundOf(0, 0, HIGH), 7);
        Expect.is("u of 1", x.boundOf(0, 1, HIGH), 9);
        Expect.is("LOWER as far as it came", x.node(0, 5), -16);
        Expect.is("none was WORKED at", x.count(5), 0);
        // Another ROUND would bring l of 0 to 8.
        BranchTrees y = Tell.names(0, 9, 0, 9);
        Tell.row(y, AT_MOST, -5, -1, 1);
        Tell.row(y, AT_LEAST, 3, 0, 1);
        y.row(AT_MOST, -1);
        y.run(1);
        Expect.is("closed by", y.node(0, 6), 2);
        Expect.is("l of 0, no ROUND more", y.boundOf(0, 0, LOW), 5);
        Expect.is("l of 1", y.boundOf(0, 1, LOW), 3);
        Expect.is("u of 1", y.boundOf(0, 1, HIGH), 4);
    }

    private static void lowerIsTheLeast() {
        Expect.about("LOWER: the sum of the least of THE COST's factors times l or u");
        BranchTrees x = Tell.names(-3, 4, -3, 4, -3, 4, 2, 2);
        Tell.costs(x, 5, -6, 0, 7);
        x.run(1);
        Expect.is("LOWER", x.node(0, 5), -15 - 24 + 0 + 14);
    }

    private static void nodesAreZeroTo599() {
        Expect.about("NODES 0 .. 599, as they are made");
        BranchTrees x = Tell.fullTree();
        // They come in twos beside the root, so the last place stays empty.
        Expect.is("NODES", x.count(3), 599);
        Expect.is("the parent of 598", x.node(598, 0), 298);
        Expect.is("599", x.node(599, 0), Tell.BAD_COST);
        Expect.is("run(1)", x.run(1), Tell.FULL);
        Expect.is("NODES still", x.count(3), 599);
    }

    private static void rootHasTheSpans() {
        Expect.about("0 the root, with the spans");
        BranchTrees x = Tell.names(-50, 50, 3, 3, -50, -50, 50, 50);
        x.run(1);
        int[][] due = {{-50, 50}, {3, 3}, {-50, -50}, {50, 50}};
        for (int name = 0; name < 4; name++) {
            Expect.is("l of " + name, x.boundOf(0, name, LOW), due[name][0]);
            Expect.is("u of " + name, x.boundOf(0, name, HIGH), due[name][1]);
        }
    }

    private static void othersHaveTheirParentsBounds() {
        Expect.about("others with their parent's bounds (narrowed), of which one is cut");
        BranchTrees x = Tell.names(0, 9, 0, 9);
        Tell.row(x, AT_MOST, 5, 1, 1);
        x.run(1);
        int[][] due = {{0, 5, 0, 5}, {0, 2, 0, 5}, {3, 5, 0, 2}};
        for (int i = 0; i < 3; i++) {
            for (int name = 0; name < 2; name++) {
                Expect.is("l of " + name + " in " + i, x.boundOf(i, name, LOW), due[i][2 * name]);
                Expect.is("u of " + name + " in " + i, x.boundOf(i, name, HIGH), due[i][2 * name + 1]);
            }
        }
    }

    /** 0 .. 4 and 5 .. 9 are open when 2 is offered. */
    private static BranchTrees offeredLater() {
        BranchTrees x = Tell.names(0, 9);
        x.cost(0, 1);
        x.run(1);
        Tell.offer(x, 2);
        return x;
    }

    private static void narrowedOnlyWhenMade() {
        Expect.about("A NODE is NARROWED when it is made");
        BranchTrees x = offeredLater();
        Expect.is("u of 1", x.boundOf(1, 0, HIGH), 4);
        Expect.is("STATE of 1", x.node(1, 4), 0);
        Expect.is("l of 2", x.boundOf(2, 0, LOW), 5);
        Expect.is("STATE of 2", x.node(2, 4), 0);
        Expect.is("LOWER of 2", x.node(2, 5), 5);
    }

    private static void narrowedWithTheBestThatThereIs() {
        Expect.about("NARROWED when it is made (with the BEST that there is)");
        BranchTrees x = offeredLater();
        x.run(2);
        Expect.is("the NAME that parted 1", x.node(1, 7), 0);
        Expect.is("v of 3", x.node(3, 3), 2);
        Expect.is("u of 3", x.boundOf(3, 0, HIGH), 1);
        Expect.is("STATE of 3", x.node(3, 4), 0);
    }

    private static void closedBySixteenToo() {
        Expect.about("2 closed by a row (its number is kept; 16 too)");
        BranchTrees x = offeredLater();
        x.run(2);
        Expect.is("STATE of 4", x.node(4, 4), 2);
        Expect.is("closed by", x.node(4, 6), 16);
        Expect.is("LOWER of 4", x.node(4, 5), 3);
        Expect.is("2 was closed by the COST", x.node(2, 4), 3);
        Expect.is("not by a row", x.node(2, 6), Tell.NONE);
        Expect.is("of STATE 2", x.count(7), 1);
        Expect.is("of STATE 3", x.count(8), 1);
    }

    private static void lowerAtLeastBestCloses() {
        Expect.about("with a BEST and LOWER at least B: 3");
        // 0 .. 1 and 2 .. 3 are open, and 2 .. 3 is picked.
        int[][] due = {{1, 3}, {2, 3}, {3, 1}};
        for (int[] one : due) {
            BranchTrees x = Tell.names(0, 3);
            x.cost(0, 1);
            x.run(1);
            Tell.offer(x, one[0]);
            x.run(1);
            Expect.is("STATE, LOWER 2 and B " + one[0], x.node(2, 4), one[1]);
        }
        BranchTrees plan = Tell.names(0, 1);
        plan.run(1);
        Tell.offer(plan, 0);
        plan.run(1);
        Expect.is("a PLAN like B is closed by the COST", plan.node(2, 4), 3);
        Expect.is("B's PLAN stays", plan.best(0), 0);
    }

    private static void allLowsAreHighsIsAPlan() {
        Expect.about("Else if all l are u: 4");
        BranchTrees x = Tell.sameNames(8, 6, 6);
        Expect.is("run(1)", x.run(1), 1);
        Expect.is("STATE", x.node(0, 4), 4);
        Expect.is("parted by", x.node(0, 7), Tell.NONE);
        Expect.is("NODES", x.count(3), 1);
        BranchTrees y = Tell.sameNames(7, 6, 6);
        y.name(6, 7);
        Expect.is("run(1), all but the last", y.run(1), 2);
        Expect.is("STATE, all but the last", y.node(0, 4), 1);
        Expect.is("parted by the last", y.node(0, 7), 7);
    }

    private static void planIsTheBestThen() {
        Expect.about("it is the BEST then (its COST is LOWER)");
        BranchTrees x = Tell.names(3, 3, -4, -4);
        Tell.costs(x, 5, 20);
        x.run(1);
        Expect.is("best(-1)", x.best(-1), 15 - 80);
        Expect.is("LOWER", x.node(0, 5), 15 - 80);
        Expect.is("best(0)", x.best(0), 3);
        Expect.is("best(1)", x.best(1), -4);
    }

    private static void middleIsDownwards() {
        Expect.about("m = (l + u) / 2, whole, downwards; two NODES: u is m, and l is m + 1");
        int[][] due = {{-1, 0, -1}, {0, 1, 0}, {-50, 50, 0}, {-50, 49, -1}, {-49, 50, 0}, {-50, -49, -50},
            {49, 50, 49}, {-3, -2, -3}, {-4, -2, -3}, {-5, 2, -2}};
        for (int[] one : due) {
            BranchTrees x = Tell.names(one[0], one[1]);
            x.run(1);
            String of = " of " + one[0] + " .. " + one[1];
            Expect.is("v of 1" + of, x.node(1, 3), one[2]);
            Expect.is("v of 2" + of, x.node(2, 3), one[2] + 1);
            Expect.is("l of 1" + of, x.boundOf(1, 0, LOW), one[0]);
            Expect.is("u of 1" + of, x.boundOf(1, 0, HIGH), one[2]);
            Expect.is("l of 2" + of, x.boundOf(2, 0, LOW), one[2] + 1);
            Expect.is("u of 2" + of, x.boundOf(2, 0, HIGH), one[1]);
        }
    }

    private static void sideComesFirst() {
        Expect.about("that of the side that is told comes first (at first 0)");
        BranchTrees x = Tell.names(0, 7);
        x.run(1);
        Expect.is("at first: side of 1", x.node(1, 2), 0);
        Expect.is("at first: side of 2", x.node(2, 2), 1);
        for (int side = 1; side >= 0; side--) {
            x.rule(2, side);
            x.restart();
            x.run(1);
            Expect.is("side of 1", x.node(1, 2), side);
            Expect.is("side of 2", x.node(2, 2), 1 - side);
            Expect.is("v of 1", x.node(1, 3), 3 + side);
            Expect.is("v of 2", x.node(2, 3), 4 - side);
        }
    }

    /** The number of the one NODE beside the root that was parted. */
    private static int partedNode(int picking, int side, int cost) {
        BranchTrees x = Tell.names(0, 7, 0, 7);
        x.cost(0, cost);
        x.rule(0, picking);
        x.rule(2, side);
        x.run(2);
        return x.node(1, 4) == 1 ? 1 : x.node(2, 4) == 1 ? 2 : -1;
    }

    private static void likeLowersTheLeastNumber() {
        Expect.about("1 the least LOWER (of like ones the least number)");
        Expect.is("like ones", partedNode(1, 0, 0), 1);
        Expect.is("the least is the first", partedNode(1, 0, 1), 1);
        Expect.is("the least is the second", partedNode(1, 1, 1), 2);
    }

    private static void pickingByNumber() {
        Expect.about("0 the greatest number; .. 2 the least number");
        for (int side = 0; side < 2; side++) {
            Expect.is("the greatest", partedNode(0, side, 1), 2);
            Expect.is("the least", partedNode(2, side, 1), 1);
        }
    }

    private static void likeNamesTheLeastNumber() {
        Expect.about("CHOOSING .. (of like ones the least number)");
        for (int choosing = 0; choosing < 4; choosing++) {
            BranchTrees x = Tell.names(4, 4, 0, 3, -3, 0, 5, 8);
            Tell.costs(x, 9, 2, -2, 2);
            x.rule(1, choosing);
            x.run(1);
            Expect.is("rule " + choosing, x.node(0, 7), 1);
        }
        BranchTrees x = Tell.names(0, 3, 0, 3, 0, 3);
        Tell.costs(x, 0, 1, 1);
        for (int parted = 0; parted < 2; parted++) {
            x.rule(1, 3);
            x.run(1);
            x.restart();
            x.rule(1, 2);
            x.run(1);
            Expect.is("the greatest PRICE", x.node(0, 7), 1);
            x.restart();
        }
    }

    private static void onlyNamesWithLowBelowHigh() {
        Expect.about("CHOOSING among NAMES with l below u");
        for (int choosing = 0; choosing < 4; choosing++) {
            // The others have the lesser numbers, the lesser spans and the greater factors.
            BranchTrees x = Tell.names(5, 5, 0, 3, 0, 9, 5, 5);
            Tell.row(x, AT_MOST, 0, 0, 1);
            Tell.costs(x, 20, 20, 1, 20);
            x.rule(1, choosing);
            x.run(1);
            Expect.is("rule " + choosing, x.node(0, 7), 2);
        }
    }

    private static void leastSpan() {
        Expect.about("1 the least u - l");
        int[][] due = {{0, 3, 0, 2, 1}, {0, 2, 0, 3, 0}, {-50, -48, 49, 50, 1}, {-50, 50, -49, 50, 1}, {7, 9, -2, 0, 0}};
        for (int[] one : due) {
            BranchTrees x = Tell.names(one[0], one[1], one[2], one[3]);
            x.rule(1, 1);
            x.run(1);
            Expect.is("of " + one[0] + " .. " + one[1] + " and " + one[2] + " .. " + one[3], x.node(0, 7), one[4]);
        }
    }

    private static void costWithoutSign() {
        Expect.about("3 the greatest factor of THE COST, without sign");
        int[][] due = {{1, -2, 1}, {-1, 2, 1}, {-2, 1, 0}, {-1, -2, 1}, {0, -1, 1}, {-20, 19, 0}, {2, -2, 0}};
        for (int[] one : due) {
            BranchTrees x = Tell.names(0, 3, 0, 3);
            Tell.costs(x, one[0], one[1]);
            x.rule(1, 3);
            x.run(1);
            Expect.is("of " + one[0] + " and " + one[1], x.node(0, 7), one[2]);
        }
    }

    private static void fiftyIfClosed() {
        Expect.about("(50, if it is closed) is added");
        // Without the first there is the second, which must not be without the first.
        BranchTrees x = Tell.names(0, 1, 0, 1);
        Tell.row(x, AT_LEAST, 1, 1, 1);
        Tell.row(x, AT_LEAST, 0, 1, -1);
        Tell.costs(x, 7, 20);
        x.run(1);
        Expect.is("STATE of 1", x.node(1, 4), 2);
        Expect.is("LOWER of 1", x.node(1, 5), 20);
        Expect.is("LOWER of 2", x.node(2, 5), 7);
        Expect.is("50 and 7 by 2", x.price(0), 16 * 57 / 2);
    }

    private static void nothingAboveItsOwn() {
        Expect.about("what their LOWER is above its own");
        BranchTrees x = Tell.names(-9, 8, 4, 4);
        Tell.costs(x, 0, 20);
        x.run(1);
        Expect.is("nothing", x.price(0), 0);
        x.cost(0, -1);
        x.run(1);
        // - 8 + 80 is its own; u is - 1 makes that 1 + 80, l is 0 leaves it.
        Expect.is("9 and 0 by 2", x.price(0), 16 * 9 / 2);
        Expect.is("of the other", x.price(1), 0);
    }

    private static void priceIsWhole() {
        Expect.about("PRICE: 16 times what was added, by the times, whole");
        BranchTrees x = Tell.names(0, 9);
        x.cost(0, 1);
        x.rule(0, 2);
        // 0 .. 9 brings 5, 0 .. 4 brings 3, 5 .. 9 brings 3.
        int[] due = {16 * 5 / 2, 16 * 8 / 4, 29};
        for (int parted = 0; parted < 3; parted++) {
            x.run(1);
            Expect.is("times " + 2 * (parted + 1), x.price(0), due[parted]);
        }
    }

    private static void zeroWithout() {
        Expect.about("PRICE: .. (0 without)");
        BranchTrees x = Tell.names(0, 9, 0, 9, 3, 3);
        Tell.costs(x, 1, 1, 1);
        for (int name = 0; name < 3; name++) {
            Expect.is("before it was parted", x.price(name), 0);
        }
        x.run(1);
        Expect.is("of another that was parted", x.price(1), 0);
        Expect.is("of one that can't be", x.price(2), 0);
    }

    /** A TREE, a BEST and a PRICE, and two NAMES that are alike. */
    private static BranchTrees searched() {
        BranchTrees x = Tell.names(0, 9, 0, 9);
        Tell.row(x, AT_LEAST, 3, 1, 1);
        Tell.costs(x, 1, 1);
        x.run(300);
        Expect.is("NODES before", x.count(3) > 0 ? 1 : 0, 1);
        Expect.is("BEST before", x.best(-1), 3);
        Expect.is("PRICE before", x.price(0) > 0 ? 1 : 0, 1);
        return x;
    }

    private static void gone(String call, BranchTrees x) {
        Expect.is(call + ": NODES", x.count(3), 0);
        Expect.is(call + ": open ones", x.count(4), 0);
        Expect.is(call + ": WORKED at", x.count(5), 0);
        Expect.is(call + ": bound()", x.bound(), Tell.BAD_COST);
        Expect.is(call + ": node(0, 0)", x.node(0, 0), Tell.BAD_COST);
        Expect.is(call + ": boundOf(0, 0, 0)", x.boundOf(0, 0, 0), Tell.BAD_VALUE);
        Expect.is(call + ": check()", x.check(), Tell.BAD);
        Expect.is(call + ": restart()", x.restart(), 0);
        Expect.is(call + ": count(6)", x.count(6), 0);
        Expect.is(call + ": best(-1)", x.best(-1), Tell.BAD_COST);
        Expect.is(call + ": best(0)", x.best(0), Tell.BAD_COST);
        Expect.is(call + ": price(0)", x.price(0), 0);
        Expect.is(call + ": run(1) makes the root", x.run(1), 2);
        Expect.is(call + ": NODES then", x.count(3), 3);
        int gain = x.node(1, 5) + x.node(2, 5) - 2 * x.node(0, 5);
        Expect.is(call + ": a PRICE of these alone", x.price(0), 16 * gain / 2);
    }

    private static void whatGoes() {
        Expect.about("Whatever is told of THE PROBLEM .. makes TREE, BEST, PRICES go");
        BranchTrees x = searched();
        x.name(0, 9);
        gone("name()", x);
        x = searched();
        x.row(AT_LEAST, 0);
        gone("row()", x);
        x = searched();
        x.factor(0, 0, 2);
        gone("factor()", x);
        x = searched();
        x.cost(0, 2);
        gone("cost()", x);
        x = searched();
        Expect.is("order()", x.order(), 1);
        gone("order()", x);
        Expect.about("(.. the same again, too)");
        x = searched();
        x.factor(0, 0, 1);
        gone("factor()", x);
        x = searched();
        x.cost(0, 1);
        gone("cost()", x);
        whatStays();
    }

    private static void whatStays() {
        Expect.about("Whatever is told of THE PROBLEM: no other call");
        BranchTrees x = searched();
        int nodes = x.count(3);
        int price = x.price(0);
        x.rule(1, 3);
        x.rule(2, 1);
        x.start(1, 7);
        x.offer();
        x.alike(0, 1);
        x.check();
        x.run(1);
        Expect.is("NODES", x.count(3), nodes);
        Expect.is("BEST", x.best(-1), 3);
        Expect.is("PRICE", x.price(0), price);
        BranchTrees y = Tell.names(0, 8, 0, 9);
        y.run(1);
        Expect.is("ORDERS that do not come", y.order(), 0);
        Expect.is("NODES still", y.count(3), 3);
        Expect.about("TREE, BEST, PRICES go: nothing else");
        x.row(AT_MOST, 5);
        Expect.is("rule", x.rule(1, 0), 3);
        Expect.is("the side", x.rule(2, 0), 1);
        Expect.is("START", x.start(1, 0), 7);
    }

    private static void whichIsAnswered() {
        Expect.about("Where BAD and FULL hold, it is BAD");
        BranchTrees x = Tell.sameNames(8, 0, 1);
        Tell.emptyRows(x, 16);
        Expect.is("name(2, 1)", x.name(2, 1), Tell.BAD);
        Expect.is("name(-51, 1)", x.name(-51, 1), Tell.BAD);
        Expect.is("name(0, 51)", x.name(0, 51), Tell.BAD);
        Expect.is("name(0, 1)", x.name(0, 1), Tell.FULL);
        Expect.is("row(3, 0)", x.row(3, 0), Tell.BAD);
        Expect.is("row(-1, 0)", x.row(-1, 0), Tell.BAD);
        Expect.is("row(0, 1001)", x.row(0, 1_001), Tell.BAD);
        Expect.is("row(0, -1001)", x.row(0, -1_001), Tell.BAD);
        Expect.is("row(0, 0)", x.row(0, 0), Tell.FULL);
        BranchTrees full = Tell.fullTree();
        Expect.is("run(0)", full.run(0), Tell.BAD);
        Expect.is("run(301)", full.run(301), Tell.BAD);
        Expect.is("run(300)", full.run(300), Tell.FULL);
    }

    private static void useOfAnObject() {
        Expect.about("An object is used for at most 512 calls");
        BranchTrees x = Tell.sameNames(8, -50, 50);
        for (int name = 0; name < 8; name++) {
            x.cost(name, 20);
        }
        x.rule(0, 2);
        Expect.is("run(300)", x.run(300), Tell.FULL);
        int price = x.price(0);
        Expect.is("restart()", x.restart(), 599);
        // 20 calls up to here.
        for (int tree = 0; tree < 245; tree++) {
            Expect.is("run(300)", x.run(300), Tell.FULL);
            Expect.is("restart()", x.restart(), 599);
        }
        Expect.is("the PRICE of like TREES", x.price(0), price);
        Expect.is("run(299), the 512th", x.run(299), 2);
    }
}
