/** Promises 1 to 13: a new object, the batch, apply, rollback, and the tables. */
public final class TablesTest {
    private static final Check check = new Check();
    private static final int LOW = Integer.MIN_VALUE;
    private static final int HIGH = Integer.MAX_VALUE;

    public static void main(String[] args) {
        newObject();
        insertLeft();
        deleteLeft();
        insertRight();
        deleteRight();
        orderOfExceptions();
        batchSizeAndDiscard();
        apply();
        rollback();
        rollbackDepth();
        counts();
        fullOfDifferentRows();
        check.finish();
    }

    private static void newObject() {
        ViewMaintainer x = new ViewMaintainer();
        check.due(1, "leftSize()", 0, () -> x.leftSize());
        check.due(1, "rightSize()", 0, () -> x.rightSize());
        check.due(1, "batchSize()", 0, () -> x.batchSize());
        check.due(1, "joinSize()", 0, () -> x.joinSize());
        check.due(1, "joinDistinct()", 0, () -> x.joinDistinct());
        check.due(1, "danglingCount()", 0, () -> x.danglingCount());
        check.due(1, "changeCount()", 0, () -> x.changeCount());
        check.due(1, "clearWatches()", 0, () -> x.clearWatches());
        check.due(1, "changedWatches()", 0, () -> x.changedWatches());
        check.due(1, "qualifiedGroups(least)", 0, () -> x.qualifiedGroups(LOW));
        check.due(1, "faultPosition()", -1, () -> x.faultPosition());
        check.due(1, "accepts(9, 5, -99, 9)", true, () -> x.accepts(9, 5, -99, 9));
        check.badState(1, "rollback()", () -> x.rollback());
        check.badState(1, "restore()", () -> { x.restore(); return 0; });
        check.badIndex(1, "isRaised(0)", () -> x.isRaised(0));
        check.badIndex(1, "rankedGroup(0)", () -> x.rankedGroup(0));
        ViewMaintainer y = new ViewMaintainer();
        x.insertLeft(0, 0, 0);
        x.apply();
        check.due(1, "leftSize() of another object", 0, () -> y.leftSize());
    }

    private static void insertLeft() {
        ViewMaintainer x = new ViewMaintainer();
        check.due(2, "insertLeft(0, 0, -99)", 1, () -> x.insertLeft(0, 0, -99));
        check.due(2, "insertLeft(9, 5, 99)", 2, () -> x.insertLeft(9, 5, 99));
        check.due(2, "insertLeft(9, 5, 99) again", 3, () -> x.insertLeft(9, 5, 99));
        check.due(2, "leftSize() before apply", 0, () -> x.leftSize());
        for (int bad : new int[] {-1, 10, LOW, HIGH}) {
            check.badArgument(2, "insertLeft(" + bad + ", 0, 0)", () -> x.insertLeft(bad, 0, 0));
        }
        for (int bad : new int[] {-1, 6, LOW, HIGH}) {
            check.badArgument(2, "insertLeft(0, " + bad + ", 0)", () -> x.insertLeft(0, bad, 0));
        }
        for (int bad : new int[] {-100, 100, LOW, HIGH}) {
            check.badArgument(2, "insertLeft(0, 0, " + bad + ")", () -> x.insertLeft(0, 0, bad));
        }
        check.due(2, "batchSize() after wrong calls", 3, () -> x.batchSize());
        x.apply();
        check.due(2, "leftCount(9, 5, 99)", 2, () -> x.leftCount(9, 5, 99));
        check.due(2, "leftCount(0, 0, -99)", 1, () -> x.leftCount(0, 0, -99));

        ViewMaintainer full = new ViewMaintainer();
        Check.insertLeft(full, 39, 1, 1, 1);
        check.due(2, "40th insertLeft", 40, () -> full.insertLeft(1, 1, 2));
        check.badState(2, "41st insertLeft", () -> full.insertLeft(1, 1, 3));
        full.apply();
        Check.insertLeft(full, 20, 2, 2, 2);
        check.badState(2, "insertLeft into 60 planned rows", () -> full.insertLeft(3, 3, 3));
        check.due(2, "deleteLeft makes room", 21, () -> full.deleteLeft(1, 1, 2));
        check.due(2, "insertLeft into 59 planned rows", 22, () -> full.insertLeft(3, 3, 3));
        check.badState(2, "insertLeft into 60 planned rows again", () -> full.insertLeft(3, 3, 3));
        check.due(2, "insertRight with a full left table", 23, () -> full.insertRight(3, 3));
        full.apply();
        check.due(2, "leftSize()", 60, () -> full.leftSize());
        check.badState(2, "insertLeft into 60 rows", () -> full.insertLeft(3, 3, 3));
        full.deleteLeft(3, 3, 3);
        full.discard();
        check.badState(2, "insertLeft after a discarded deletion", () -> full.insertLeft(3, 3, 3));
    }

    private static void deleteLeft() {
        ViewMaintainer x = new ViewMaintainer();
        check.noElement(3, "deleteLeft of an empty table", () -> x.deleteLeft(4, 3, 7));
        x.insertLeft(4, 3, 7);
        check.noElement(3, "deleteLeft of another key", () -> x.deleteLeft(5, 3, 7));
        check.noElement(3, "deleteLeft of another group", () -> x.deleteLeft(4, 2, 7));
        check.noElement(3, "deleteLeft of another value", () -> x.deleteLeft(4, 3, -7));
        check.due(3, "deleteLeft of a planned row", 2, () -> x.deleteLeft(4, 3, 7));
        check.noElement(3, "deleteLeft of a row that is planned to go", () -> x.deleteLeft(4, 3, 7));
        Check.insertLeft(x, 2, 4, 3, 7);
        x.apply();
        check.due(3, "deleteLeft of one occurrence", 1, () -> x.deleteLeft(4, 3, 7));
        check.due(3, "leftCount before apply", 2, () -> x.leftCount(4, 3, 7));
        x.apply();
        check.due(3, "leftCount after apply", 1, () -> x.leftCount(4, 3, 7));
        x.deleteLeft(4, 3, 7);
        check.noElement(3, "deleteLeft of more rows than there are", () -> x.deleteLeft(4, 3, 7));
        x.discard();
        check.due(3, "deleteLeft after discard", 1, () -> x.deleteLeft(4, 3, 7));
        for (int bad : new int[] {-1, 10, LOW, HIGH}) {
            check.badArgument(3, "deleteLeft(" + bad + ", 0, 0)", () -> x.deleteLeft(bad, 0, 0));
        }
        for (int bad : new int[] {-1, 6, LOW, HIGH}) {
            check.badArgument(3, "deleteLeft(0, " + bad + ", 0)", () -> x.deleteLeft(0, bad, 0));
        }
        for (int bad : new int[] {-100, 100, LOW, HIGH}) {
            check.badArgument(3, "deleteLeft(0, 0, " + bad + ")", () -> x.deleteLeft(0, 0, bad));
        }
    }

    private static void insertRight() {
        ViewMaintainer x = new ViewMaintainer();
        check.due(4, "insertRight(0, -9)", 1, () -> x.insertRight(0, -9));
        check.due(4, "insertRight(9, 9)", 2, () -> x.insertRight(9, 9));
        check.due(4, "insertRight(9, 9) again", 3, () -> x.insertRight(9, 9));
        check.due(4, "rightSize() before apply", 0, () -> x.rightSize());
        for (int bad : new int[] {-1, 10, LOW, HIGH}) {
            check.badArgument(4, "insertRight(" + bad + ", 0)", () -> x.insertRight(bad, 0));
        }
        for (int bad : new int[] {-10, 10, LOW, HIGH}) {
            check.badArgument(4, "insertRight(0, " + bad + ")", () -> x.insertRight(0, bad));
        }
        x.apply();
        check.due(4, "rightCount(9, 9)", 2, () -> x.rightCount(9, 9));
        check.due(4, "rightCount(0, -9)", 1, () -> x.rightCount(0, -9));

        ViewMaintainer full = new ViewMaintainer();
        Check.insertRight(full, 39, 1, 1);
        check.due(4, "40th insertRight", 40, () -> full.insertRight(1, 2));
        check.badState(4, "41st insertRight", () -> full.insertRight(1, 3));
        full.apply();
        Check.insertRight(full, 20, 2, 2);
        check.badState(4, "insertRight into 60 planned rows", () -> full.insertRight(3, 3));
        check.due(4, "deleteRight makes room", 21, () -> full.deleteRight(1, 2));
        check.due(4, "insertRight into 59 planned rows", 22, () -> full.insertRight(3, 3));
        check.badState(4, "insertRight into 60 planned rows again", () -> full.insertRight(3, 3));
        check.due(4, "insertLeft with a full right table", 23, () -> full.insertLeft(3, 3, 3));
        full.apply();
        check.due(4, "rightSize()", 60, () -> full.rightSize());
    }

    private static void deleteRight() {
        ViewMaintainer x = new ViewMaintainer();
        check.noElement(5, "deleteRight of an empty table", () -> x.deleteRight(4, 7));
        x.insertRight(4, 7);
        check.noElement(5, "deleteRight of another key", () -> x.deleteRight(5, 7));
        check.noElement(5, "deleteRight of another factor", () -> x.deleteRight(4, -7));
        check.due(5, "deleteRight of a planned row", 2, () -> x.deleteRight(4, 7));
        check.noElement(5, "deleteRight of a row that is planned to go", () -> x.deleteRight(4, 7));
        Check.insertRight(x, 2, 4, 7);
        x.apply();
        check.due(5, "deleteRight of one occurrence", 1, () -> x.deleteRight(4, 7));
        check.due(5, "rightCount before apply", 2, () -> x.rightCount(4, 7));
        x.apply();
        check.due(5, "rightCount after apply", 1, () -> x.rightCount(4, 7));
        for (int bad : new int[] {-1, 10, LOW, HIGH}) {
            check.badArgument(5, "deleteRight(" + bad + ", 0)", () -> x.deleteRight(bad, 0));
        }
        for (int bad : new int[] {-10, 10, LOW, HIGH}) {
            check.badArgument(5, "deleteRight(0, " + bad + ")", () -> x.deleteRight(0, bad));
        }
    }

    private static void orderOfExceptions() {
        ViewMaintainer x = new ViewMaintainer();
        Check.insertLeft(x, 40, 0, 0, 0);
        check.badArgument(2, "insertLeft(10, 0, 0) with a full batch", () -> x.insertLeft(10, 0, 0));
        check.badArgument(3, "deleteLeft(0, 6, 0) with a full batch", () -> x.deleteLeft(0, 6, 0));
        check.badArgument(4, "insertRight(0, 10) with a full batch", () -> x.insertRight(0, 10));
        check.badArgument(5, "deleteRight(-1, 0) with a full batch", () -> x.deleteRight(-1, 0));
        check.badState(3, "deleteLeft of a missing row with a full batch", () -> x.deleteLeft(1, 1, 1));
        check.badState(3, "deleteLeft with a full batch", () -> x.deleteLeft(0, 0, 0));
        check.badState(4, "insertRight with a full batch", () -> x.insertRight(1, 1));
        check.badState(5, "deleteRight of a missing row with a full batch", () -> x.deleteRight(1, 1));
        check.due(6, "batchSize() of a full batch", 40, () -> x.batchSize());
    }

    private static void batchSizeAndDiscard() {
        ViewMaintainer x = new ViewMaintainer();
        check.due(7, "discard() of an empty batch", 0, () -> x.discard());
        x.insertLeft(0, 0, 1);
        x.deleteLeft(0, 0, 1);
        x.insertRight(0, 1);
        check.due(6, "batchSize()", 3, () -> x.batchSize());
        check.due(7, "discard()", 3, () -> x.discard());
        check.due(6, "batchSize() after discard", 0, () -> x.batchSize());
        check.noElement(7, "deleteRight of a discarded row", () -> x.deleteRight(0, 1));
        check.due(7, "apply() after discard", 0, () -> x.apply());
        check.due(7, "rightSize() after discard", 0, () -> x.rightSize());
        x.insertLeft(0, 0, 1);
        x.insertRight(0, 1);
        x.apply();
        check.due(6, "batchSize() after apply", 0, () -> x.batchSize());
        x.deleteRight(0, 1);
        x.discard();
        check.due(7, "joinSize() after discard", 1, () -> x.joinSize());
        check.due(7, "changeCount() after discard", 1, () -> x.changeCount());
        x.apply();
        check.due(7, "rightSize() after discard and apply", 1, () -> x.rightSize());
    }

    private static void apply() {
        ViewMaintainer x = new ViewMaintainer();
        check.due(8, "apply() of an empty batch", 0, () -> x.apply());
        check.due(9, "rollback() of an empty batch", 0, () -> x.rollback());
        check.badState(9, "rollback() of nothing", () -> x.rollback());
        x.insertLeft(0, 0, 3);
        x.insertLeft(0, 1, 3);
        x.insertRight(0, 2);
        x.insertRight(0, -2);
        check.due(8, "apply()", 4, () -> x.apply());
        check.due(8, "apply() with no new row", 0, () -> x.apply());
        check.due(8, "changeCount() after it", 0, () -> x.changeCount());
        x.insertLeft(0, 0, -3);
        check.due(8, "apply() that changes counts only", 2, () -> x.apply());
        x.insertLeft(1, 0, 3);
        check.due(8, "apply() with a dangling row", 0, () -> x.apply());
        check.due(8, "leftSize()", 4, () -> x.leftSize());
        x.insertLeft(0, 0, 5);
        x.deleteLeft(0, 0, 5);
        check.due(8, "apply() of changes that undo one another", 0, () -> x.apply());
        x.deleteLeft(0, 0, 3);
        x.insertLeft(0, 0, -3);
        check.due(8, "apply() of other rows with the same products", 0, () -> x.apply());
        check.due(8, "leftCount(0, 0, -3)", 2, () -> x.leftCount(0, 0, -3));
    }

    private static void rollback() {
        ViewMaintainer x = new ViewMaintainer();
        x.insertLeft(0, 0, 3);
        x.insertRight(0, 2);
        x.apply();
        x.insertLeft(0, 0, 4);
        x.deleteRight(0, 2);
        x.insertRight(0, 5);
        x.apply();
        x.insertLeft(9, 5, 1);
        check.due(9, "rollback()", 3, () -> x.rollback());
        check.due(9, "changes of rollback", "0,0,6*1 0,0,15*-1 0,0,20*-1", () -> Check.changeRows(x));
        check.due(9, "batchSize() after rollback", 0, () -> x.batchSize());
        check.due(9, "apply() after rollback", 0, () -> x.apply());
        check.due(9, "leftSize() after rollback", 1, () -> x.leftSize());
        check.due(9, "rightCount(0, 2) after rollback", 1, () -> x.rightCount(0, 2));
        check.due(9, "rollback() of the empty apply", 0, () -> x.rollback());
        check.due(9, "rollback() of the first apply", 1, () -> x.rollback());
        x.insertLeft(1, 1, 1);
        check.badState(9, "rollback() of nothing", () -> x.rollback());
        check.due(9, "batchSize() after a rollback that throws", 1, () -> x.batchSize());
        check.due(9, "changeCount() after a rollback that throws", 1, () -> x.changeCount());

        ViewMaintainer y = new ViewMaintainer();
        y.insertLeft(0, 0, 3);
        y.insertLeft(0, 0, 4);
        y.insertRight(0, 1);
        y.apply();
        Check.filter(y, "v=4");
        check.due(9, "rollback() under a filter", 1, () -> y.rollback());
        check.due(9, "changes under the filter", "0,0,4*-1", () -> Check.changeRows(y));
        check.due(9, "the filter stays", false, () -> y.accepts(0, 0, 3, 1));
        y.insertLeft(0, 0, 3);
        y.apply();
        y.clearFilter();
        y.rollback();
        check.due(9, "the cleared filter stays", true, () -> y.accepts(0, 0, 3, 1));
        y.apply();
        y.save();
        check.due(9, "save() forgets no apply", 0, () -> y.rollback());
        y.apply();
        y.restore();
        check.badState(9, "rollback() after restore", () -> y.rollback());
    }

    private static void rollbackDepth() {
        ViewMaintainer x = new ViewMaintainer();
        for (int i = 0; i < 6; i++) {
            x.insertLeft(i, 0, i);
            x.apply();
        }
        for (int i = 5; i >= 2; i--) {
            int size = i;
            check.due(9, "rollback()", 0, () -> x.rollback());
            check.due(9, "leftSize()", size, () -> x.leftSize());
        }
        check.badState(9, "5th rollback()", () -> x.rollback());
        check.due(9, "leftSize() after all", 2, () -> x.leftSize());

        // What has fallen off stays gone, though later calls were undone.
        ViewMaintainer y = new ViewMaintainer();
        for (int i = 0; i < 5; i++) {
            y.insertLeft(i, 0, i);
            y.apply();
        }
        y.rollback();
        y.rollback();
        y.insertLeft(7, 0, 7);
        y.apply();
        y.rollback();
        y.rollback();
        y.rollback();
        check.badState(9, "rollback() of an apply that is gone", () -> y.rollback());
        check.due(9, "leftSize() of what stays", 1, () -> y.leftSize());
        check.due(9, "leftCount(0, 0, 0) of what stays", 1, () -> y.leftCount(0, 0, 0));
    }

    private static ViewMaintainer differentRows() {
        ViewMaintainer x = new ViewMaintainer();
        for (int i = 0; i < 60; i++) {
            x.insertLeft(i / 6, i % 6, 99 - i);
            if (i == 39) {
                x.apply();
            }
        }
        x.apply();
        for (int i = 0; i < 60; i++) {
            x.insertRight(i / 6, i % 6 * 3 - 9);
            if (i == 39) {
                x.apply();
            }
        }
        x.apply();
        return x;
    }

    private static void fullOfDifferentRows() {
        for (int row : new int[] {0, 1, 30, 58, 59}) {
            ViewMaintainer x = differentRows();
            check.due(3, "deleteLeft of row " + row, 1, () -> x.deleteLeft(row / 6, row % 6, 99 - row));
            check.due(2, "insertLeft in its place", 2, () -> x.insertLeft(9, 5, -99));
            check.badState(2, "insertLeft of a row too many", () -> x.insertLeft(0, 0, 0));
            check.due(5, "deleteRight of row " + row, 3, () -> x.deleteRight(row / 6, row % 6 * 3 - 9));
            check.due(4, "insertRight in its place", 4, () -> x.insertRight(9, 9));
            check.badState(4, "insertRight of a row too many", () -> x.insertRight(0, 0));
            x.apply();
            check.due(10, "leftCount of the row that went", 0, () -> x.leftCount(row / 6, row % 6, 99 - row));
            check.due(11, "rightCount of the row that went", 0, () -> x.rightCount(row / 6, row % 6 * 3 - 9));
            check.due(10, "leftCount of the row that came", 1, () -> x.leftCount(9, 5, -99));
            check.due(11, "rightCount of the row that came", 1, () -> x.rightCount(9, 9));
            for (int i = 0; i < 60; i++) {
                int other = i;
                int want = i == row ? 0 : 1;
                check.due(10, "leftCount of row " + i, want, () -> x.leftCount(other / 6, other % 6, 99 - other));
                check.due(11, "rightCount of row " + i, want, () -> x.rightCount(other / 6, other % 6 * 3 - 9));
            }
            check.due(12, "leftSize()", 60, () -> x.leftSize());
            check.due(13, "rightSize()", 60, () -> x.rightSize());
        }
    }

    private static void counts() {
        ViewMaintainer x = new ViewMaintainer();
        Check.insertLeft(x, 3, 2, 1, -99);
        Check.insertRight(x, 2, 2, 9);
        check.due(10, "leftCount before apply", 0, () -> x.leftCount(2, 1, -99));
        check.due(11, "rightCount before apply", 0, () -> x.rightCount(2, 9));
        check.due(12, "leftSize() before apply", 0, () -> x.leftSize());
        check.due(13, "rightSize() before apply", 0, () -> x.rightSize());
        x.apply();
        check.due(10, "leftCount(2, 1, -99)", 3, () -> x.leftCount(2, 1, -99));
        check.due(10, "leftCount(2, 1, 99)", 0, () -> x.leftCount(2, 1, 99));
        check.due(10, "leftCount(1, 2, -99)", 0, () -> x.leftCount(1, 2, -99));
        check.due(10, "leftCount(9, 5, 99)", 0, () -> x.leftCount(9, 5, 99));
        check.due(11, "rightCount(2, 9)", 2, () -> x.rightCount(2, 9));
        check.due(11, "rightCount(3, -9)", 0, () -> x.rightCount(3, -9));
        check.due(11, "rightCount(9, 9)", 0, () -> x.rightCount(9, 9));
        check.due(12, "leftSize()", 3, () -> x.leftSize());
        check.due(13, "rightSize()", 2, () -> x.rightSize());
        Check.filter(x, "k=0");
        check.due(10, "leftCount under a filter", 3, () -> x.leftCount(2, 1, -99));
        check.due(12, "leftSize() under a filter", 3, () -> x.leftSize());
        check.due(13, "rightSize() under a filter", 2, () -> x.rightSize());
        for (int bad : new int[] {-1, 10, LOW, HIGH}) {
            check.badArgument(10, "leftCount(" + bad + ", 0, 0)", () -> x.leftCount(bad, 0, 0));
            check.badArgument(11, "rightCount(" + bad + ", 0)", () -> x.rightCount(bad, 0));
            check.badArgument(11, "rightCount(0, " + (bad == -1 ? -10 : bad) + ")",
                    () -> x.rightCount(0, bad == -1 ? -10 : bad));
        }
        for (int bad : new int[] {-1, 6, LOW, HIGH}) {
            check.badArgument(10, "leftCount(0, " + bad + ", 0)", () -> x.leftCount(0, bad, 0));
        }
        for (int bad : new int[] {-100, 100, LOW, HIGH}) {
            check.badArgument(10, "leftCount(0, 0, " + bad + ")", () -> x.leftCount(0, 0, bad));
        }
    }
}
