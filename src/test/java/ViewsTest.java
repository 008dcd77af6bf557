/** Promises 14 to 30: the join, the outer join, the groups, and the latest change. */
public final class ViewsTest {
    private static final Check check = new Check();
    private static final int LOW = Integer.MIN_VALUE;
    private static final int HIGH = Integer.MAX_VALUE;

    public static void main(String[] args) {
        join();
        joinOfFullTables();
        dangling();
        groups();
        emptyGroups();
        wrongGroups();
        qualifiedAndRanked();
        rankedFirstGroup();
        changes();
        changesStayOrGo();
        check.finish();
    }

    private static ViewMaintainer sample() {
        ViewMaintainer x = new ViewMaintainer();
        x.insertLeft(3, 1, 6);
        x.insertLeft(3, 1, -4);
        x.insertLeft(3, 1, -4);
        x.insertLeft(3, 0, 2);
        x.insertLeft(1, 1, 12);
        x.insertLeft(8, 2, 50);
        x.insertRight(3, 2);
        x.insertRight(3, -3);
        x.insertRight(3, 2);
        x.insertRight(1, 1);
        x.insertRight(9, 9);
        x.apply();
        return x;
    }

    private static void join() {
        ViewMaintainer x = sample();
        check.due(14, "joinSize()", 13, () -> x.joinSize());
        check.due(15, "joinDistinct()", 6, () -> x.joinDistinct());
        check.due(17, "joinRow of all rows and columns",
                "1,1,12*1 3,0,-6*1 3,0,4*2 3,1,-18*1 3,1,-8*4 3,1,12*4", () -> Check.joinRows(x));
        check.due(16, "joinCount(3, 1, 12)", 4, () -> x.joinCount(3, 1, 12));
        check.due(16, "joinCount(1, 1, 12)", 1, () -> x.joinCount(1, 1, 12));
        check.due(16, "joinCount(2, 1, 12)", 0, () -> x.joinCount(2, 1, 12));
        check.due(16, "joinCount(3, 1, 11)", 0, () -> x.joinCount(3, 1, 11));
        for (int any : new int[] {LOW, -892, -1, 10, 892, HIGH}) {
            check.due(16, "joinCount(" + any + ", 1, 12)", 0, () -> x.joinCount(any, 1, 12));
            check.due(16, "joinCount(3, " + any + ", 12)", 0, () -> x.joinCount(3, any, 12));
            check.due(16, "joinCount(3, 1, " + any + ")", 0, () -> x.joinCount(3, 1, any));
        }
        // The numbers of a row that is there, carried over from one column into the next.
        check.due(16, "joinCount(2, 7, 12)", 0, () -> x.joinCount(2, 7, 12));
        check.due(16, "joinCount(3, 0, 12 + 1783)", 0, () -> x.joinCount(3, 0, 12 + 1783));
        check.due(16, "joinCount(3, 2, 12 - 1783)", 0, () -> x.joinCount(3, 2, 12 - 1783));
        for (int bad : new int[] {LOW, -1, 6, HIGH}) {
            check.badIndex(17, "joinRow(" + bad + ", 0)", () -> x.joinRow(bad, 0));
        }
        for (int bad : new int[] {LOW, -1, 4, HIGH}) {
            check.badIndex(17, "joinRow(0, " + bad + ")", () -> x.joinRow(0, bad));
        }
        x.deleteLeft(3, 0, 2);
        check.due(14, "joinSize() before apply", 13, () -> x.joinSize());
        x.apply();
        check.due(14, "joinSize() after apply", 10, () -> x.joinSize());
        check.due(15, "joinDistinct() after apply", 4, () -> x.joinDistinct());
        check.badIndex(17, "joinRow(4, 0) after apply", () -> x.joinRow(4, 0));
        Check.filter(x, "f<0|k=1");
        check.due(17, "joinRow under a filter", "1,1,12*1 3,1,-18*1 3,1,12*2", () -> Check.joinRows(x));
        check.due(14, "joinSize() under a filter", 4, () -> x.joinSize());
        check.due(15, "joinDistinct() under a filter", 3, () -> x.joinDistinct());
        check.due(16, "joinCount under a filter", 0, () -> x.joinCount(3, 1, -8));

        ViewMaintainer y = new ViewMaintainer();
        y.insertLeft(0, 0, 0);
        y.insertLeft(9, 5, -99);
        for (int factor = -9; factor <= 9; factor++) {
            y.insertRight(0, factor);
        }
        y.insertRight(9, 9);
        y.insertRight(9, -9);
        y.apply();
        check.due(17, "joinRow of zeros and limits", "0,0,0*19 9,5,-891*1 9,5,891*1", () -> Check.joinRows(y));
        check.due(16, "joinCount(9, 5, 891)", 1, () -> y.joinCount(9, 5, 891));
    }

    private static void joinOfFullTables() {
        ViewMaintainer x = new ViewMaintainer();
        for (int i = 0; i < 40; i++) {
            x.insertLeft(5, 2, 99);
        }
        x.apply();
        for (int i = 0; i < 20; i++) {
            x.insertLeft(5, 2, 99);
            x.insertRight(5, 9);
        }
        x.apply();
        for (int i = 0; i < 40; i++) {
            x.insertRight(5, 9);
        }
        check.due(8, "apply() of full tables", 1, () -> x.apply());
        check.due(14, "joinSize() of full tables", 3600, () -> x.joinSize());
        check.due(16, "joinCount of full tables", 3600, () -> x.joinCount(5, 2, 891));
        check.due(21, "groupSum of full tables", 3600 * 891, () -> x.groupSum(2));
        check.due(26, "groupAverage of full tables", 891.0, () -> x.groupAverage(2));
        check.due(30, "changeRow of full tables", "5,2,891*2400", () -> Check.changeRows(x));

        ViewMaintainer y = new ViewMaintainer();
        for (int i = 0; i < 40; i++) {
            y.insertLeft(4, i % 6, 99 - i);
        }
        y.apply();
        for (int i = 0; i < 20; i++) {
            y.insertLeft(4, i % 6, 1 + i);
        }
        for (int factor = -9; factor <= 9; factor++) {
            y.insertRight(4, factor);
        }
        int rows = Integer.parseInt(Check.told(() -> y.apply()));
        check.due(15, "joinDistinct() of many rows", rows, () -> y.joinDistinct());
        check.due(14, "joinSize() of many rows", 60 * 19, () -> y.joinSize());
        check.due(17, "the rows are in order", true, () -> isInOrder(y));
        check.due(9, "rollback() of many rows", rows, () -> y.rollback());
        check.due(14, "joinSize() after rollback", 0, () -> y.joinSize());
    }

    private static boolean isInOrder(ViewMaintainer x) {
        int before = -1;
        for (int i = 0; i < x.joinDistinct(); i++) {
            int now = (x.joinRow(i, 0) * 6 + x.joinRow(i, 1)) * 2000 + x.joinRow(i, 2) + 1000;
            if (now <= before) {
                return false;
            }
            before = now;
        }
        return true;
    }

    private static void dangling() {
        ViewMaintainer x = sample();
        check.due(18, "danglingCount()", 1, () -> x.danglingCount());
        check.due(19, "danglingRow", "8,2,50", () -> Check.danglingRows(x));
        x.insertLeft(8, 2, -50);
        x.insertLeft(8, 1, 99);
        x.insertLeft(8, 2, -50);
        x.insertLeft(0, 5, 1);
        check.due(18, "danglingCount() before apply", 1, () -> x.danglingCount());
        x.apply();
        check.due(18, "danglingCount() after apply", 5, () -> x.danglingCount());
        check.due(19, "danglingRow after apply", "0,5,1 8,1,99 8,2,-50 8,2,-50 8,2,50",
                () -> Check.danglingRows(x));
        for (int bad : new int[] {LOW, -1, 5, HIGH}) {
            check.badIndex(19, "danglingRow(" + bad + ", 0)", () -> x.danglingRow(bad, 0));
        }
        for (int bad : new int[] {LOW, -1, 3, HIGH}) {
            check.badIndex(19, "danglingRow(0, " + bad + ")", () -> x.danglingRow(0, bad));
        }
        Check.filter(x, "!v=-4&k>2");
        check.due(19, "danglingRow under a filter",
                "0,5,1 1,1,12 3,1,-4 3,1,-4 8,1,99 8,2,-50 8,2,-50 8,2,50", () -> Check.danglingRows(x));
        // A product 0 matches; only a filter or a missing key lets a row dangle.
        ViewMaintainer y = new ViewMaintainer();
        y.insertLeft(0, 0, 7);
        y.insertRight(0, 0);
        y.apply();
        check.due(18, "danglingCount() with a factor 0", 0, () -> y.danglingCount());
        y.deleteRight(0, 0);
        y.apply();
        check.due(18, "danglingCount() after the partner went", 1, () -> y.danglingCount());
    }

    private static void groups() {
        ViewMaintainer x = sample();
        check.due(20, "groupSize(1)", 10, () -> x.groupSize(1));
        check.due(20, "groupSize(0)", 3, () -> x.groupSize(0));
        check.due(21, "groupSum(1)", 12 - 18 - 32 + 48, () -> x.groupSum(1));
        check.due(21, "groupSum(0)", 2, () -> x.groupSum(0));
        check.due(22, "groupMinimum(1)", -18, () -> x.groupMinimum(1));
        check.due(22, "groupMinimum(0)", -6, () -> x.groupMinimum(0));
        check.due(23, "groupMaximum(1)", 12, () -> x.groupMaximum(1));
        check.due(23, "groupMaximum(0)", 4, () -> x.groupMaximum(0));
        check.due(24, "groupDistinct(1): 12 stands under two keys", 3, () -> x.groupDistinct(1));
        check.due(24, "groupDistinct(0)", 2, () -> x.groupDistinct(0));
        int[] elements = {-18, -8, -8, -8, -8, 12, 12, 12, 12, 12};
        for (int i = 0; i < elements.length; i++) {
            int index = i;
            check.due(25, "groupElement(1, " + i + ")", elements[i], () -> x.groupElement(1, index));
        }
        for (int bad : new int[] {LOW, -1, 10, HIGH}) {
            check.noElement(25, "groupElement(1, " + bad + ")", () -> x.groupElement(1, bad));
        }
        check.due(26, "groupAverage(1)", 1.0, () -> x.groupAverage(1));
        check.due(26, "groupAverage(0)", 2.0 / 3.0, () -> x.groupAverage(0));
        x.deleteLeft(3, 1, 6);
        check.due(20, "groupSize(1) before apply", 10, () -> x.groupSize(1));
        x.apply();
        check.due(20, "groupSize(1) after apply", 7, () -> x.groupSize(1));
        check.due(22, "groupMinimum(1) after apply", -8, () -> x.groupMinimum(1));
        Check.filter(x, "p<0");
        check.due(20, "groupSize(1) under a filter", 4, () -> x.groupSize(1));
        check.due(21, "groupSum(1) under a filter", -32, () -> x.groupSum(1));
        check.due(23, "groupMaximum(1) under a filter", -8, () -> x.groupMaximum(1));
        check.due(24, "groupDistinct(1) under a filter", 1, () -> x.groupDistinct(1));
        check.due(26, "groupAverage(1) under a filter", -8.0, () -> x.groupAverage(1));

        ViewMaintainer y = new ViewMaintainer();
        y.insertLeft(0, 3, -99);
        y.insertRight(0, 9);
        y.insertRight(0, -9);
        y.apply();
        check.due(22, "groupMinimum at the limit", -891, () -> y.groupMinimum(3));
        check.due(23, "groupMaximum at the limit", 891, () -> y.groupMaximum(3));
        check.due(24, "groupDistinct at the limits", 2, () -> y.groupDistinct(3));
        check.due(26, "groupAverage of sum 0", 0.0, () -> y.groupAverage(3));
        y.deleteRight(0, 9);
        y.apply();
        check.due(22, "groupMinimum of one row", 891, () -> y.groupMinimum(3));
        check.due(23, "groupMaximum of one row", 891, () -> y.groupMaximum(3));
        check.due(25, "groupElement of one row", 891, () -> y.groupElement(3, 0));
        check.due(26, "groupAverage of one row", 891.0, () -> y.groupAverage(3));
    }

    private static void emptyGroups() {
        ViewMaintainer x = sample();
        for (int g : new int[] {2, 3, 5}) {
            check.due(20, "groupSize(" + g + ")", 0, () -> x.groupSize(g));
            check.due(21, "groupSum(" + g + ")", 0, () -> x.groupSum(g));
            check.noElement(22, "groupMinimum(" + g + ")", () -> x.groupMinimum(g));
            check.noElement(23, "groupMaximum(" + g + ")", () -> x.groupMaximum(g));
            check.due(24, "groupDistinct(" + g + ")", 0, () -> x.groupDistinct(g));
            check.noElement(25, "groupElement(" + g + ", 0)", () -> x.groupElement(g, 0));
            check.noElement(26, "groupAverage(" + g + ")", () -> x.groupAverage(g));
        }
    }

    private static void wrongGroups() {
        ViewMaintainer x = sample();
        for (int g : new int[] {LOW, -1, 6, HIGH}) {
            check.badIndex(20, "groupSize(" + g + ")", () -> x.groupSize(g));
            check.badIndex(21, "groupSum(" + g + ")", () -> x.groupSum(g));
            check.badIndex(22, "groupMinimum(" + g + ")", () -> x.groupMinimum(g));
            check.badIndex(23, "groupMaximum(" + g + ")", () -> x.groupMaximum(g));
            check.badIndex(24, "groupDistinct(" + g + ")", () -> x.groupDistinct(g));
            check.badIndex(25, "groupElement(" + g + ", 0)", () -> x.groupElement(g, 0));
            check.badIndex(25, "groupElement(" + g + ", -1)", () -> x.groupElement(g, -1));
            check.badIndex(26, "groupAverage(" + g + ")", () -> x.groupAverage(g));
        }
    }

    private static void qualifiedAndRanked() {
        ViewMaintainer x = new ViewMaintainer();
        x.insertLeft(0, 5, 10);
        x.insertLeft(0, 1, 10);
        x.insertLeft(0, 0, -3);
        x.insertLeft(0, 3, 0);
        x.insertLeft(0, 4, 99);
        x.insertLeft(1, 2, 50);
        x.insertRight(0, 1);
        x.apply();
        check.due(27, "qualifiedGroups(least)", 0b111011, () -> x.qualifiedGroups(LOW));
        check.due(27, "qualifiedGroups(-4)", 0b111011, () -> x.qualifiedGroups(-4));
        check.due(27, "qualifiedGroups(-3)", 0b111011, () -> x.qualifiedGroups(-3));
        check.due(27, "qualifiedGroups(-2)", 0b111010, () -> x.qualifiedGroups(-2));
        check.due(27, "qualifiedGroups(0)", 0b111010, () -> x.qualifiedGroups(0));
        check.due(27, "qualifiedGroups(10)", 0b110010, () -> x.qualifiedGroups(10));
        check.due(27, "qualifiedGroups(11)", 0b010000, () -> x.qualifiedGroups(11));
        check.due(27, "qualifiedGroups(100)", 0, () -> x.qualifiedGroups(100));
        check.due(27, "qualifiedGroups(greatest)", 0, () -> x.qualifiedGroups(HIGH));
        int[] ranked = {4, 1, 5, 3, 0};
        for (int i = 0; i < ranked.length; i++) {
            int rank = i;
            check.due(28, "rankedGroup(" + i + ")", ranked[i], () -> x.rankedGroup(rank));
        }
        for (int bad : new int[] {LOW, -1, 5, 6, HIGH}) {
            check.badIndex(28, "rankedGroup(" + bad + ")", () -> x.rankedGroup(bad));
        }
    }

    private static void rankedFirstGroup() {
        ViewMaintainer x = new ViewMaintainer();
        for (int group = 0; group < 6; group++) {
            x.insertLeft(0, group, -group);
        }
        x.insertRight(0, 1);
        x.apply();
        for (int i = 0; i < 6; i++) {
            int rank = i;
            check.due(28, "rankedGroup(" + i + ") of descending sums", i, () -> x.rankedGroup(rank));
        }
        x.insertRight(0, -2);
        x.apply();
        for (int i = 0; i < 6; i++) {
            int rank = i;
            check.due(28, "rankedGroup(" + i + ") of ascending sums", 5 - i, () -> x.rankedGroup(rank));
        }
        check.badIndex(28, "rankedGroup(6)", () -> x.rankedGroup(6));
        check.badIndex(28, "rankedGroup(-1)", () -> x.rankedGroup(-1));
    }

    private static void changes() {
        ViewMaintainer x = sample();
        check.due(29, "changeCount()", 6, () -> x.changeCount());
        check.due(30, "changeRow of the first apply",
                "1,1,12*1 3,0,-6*1 3,0,4*2 3,1,-18*1 3,1,-8*4 3,1,12*4", () -> Check.changeRows(x));
        x.deleteRight(3, 2);
        x.deleteRight(1, 1);
        x.insertRight(8, -9);
        check.due(29, "changeCount() before apply", 6, () -> x.changeCount());
        check.due(8, "apply()", 5, () -> x.apply());
        check.due(29, "changeCount() after apply", 5, () -> x.changeCount());
        check.due(30, "changeRow after apply", "1,1,12*-1 3,0,4*-1 3,1,-8*-2 3,1,12*-1 8,2,-450*1",
                () -> Check.changeRows(x));
        for (int bad : new int[] {LOW, -1, 5, HIGH}) {
            check.badIndex(30, "changeRow(" + bad + ", 0)", () -> x.changeRow(bad, 0));
        }
        for (int bad : new int[] {LOW, -1, 4, HIGH}) {
            check.badIndex(30, "changeRow(0, " + bad + ")", () -> x.changeRow(0, bad));
        }
        check.due(9, "rollback()", 5, () -> x.rollback());
        check.due(30, "changeRow after rollback", "1,1,12*1 3,0,4*1 3,1,-8*2 3,1,12*1 8,2,-450*-1",
                () -> Check.changeRows(x));
    }

    private static void changesStayOrGo() {
        ViewMaintainer x = sample();
        x.insertLeft(0, 0, 0);
        x.discard();
        x.save();
        x.watch(0, 0);
        x.clearWatches();
        Check.told(() -> Check.filter(x, "k"));
        check.due(29, "changeCount() after a wrong filter text", 6, () -> x.changeCount());
        Check.filter(x, "k<5");
        check.due(29, "changeCount() after setFilter", 0, () -> x.changeCount());
        check.badIndex(30, "changeRow(0, 0) after setFilter", () -> x.changeRow(0, 0));
        x.deleteLeft(1, 1, 12);
        x.apply();
        check.due(29, "changeCount() after apply", 1, () -> x.changeCount());
        x.clearFilter();
        check.due(29, "changeCount() after clearFilter", 0, () -> x.changeCount());
        x.rollback();
        check.due(29, "changeCount() after rollback", 1, () -> x.changeCount());
        x.restore();
        check.due(29, "changeCount() after restore", 0, () -> x.changeCount());
    }
}
