/** Promises 40 and 41: save and restore. */
public final class SaveTest {
    private static final Check check = new Check();

    public static void main(String[] args) {
        saveAndRestore();
        saveAgain();
        textAndFault();
        restoreWithoutSave();
        check.finish();
    }

    private static Object restore(ViewMaintainer x) {
        x.restore();
        return "restored";
    }

    private static void saveAndRestore() {
        ViewMaintainer x = new ViewMaintainer();
        x.insertLeft(1, 2, 3);
        x.insertLeft(1, 2, 3);
        x.insertLeft(4, 5, 6);
        x.insertRight(1, 7);
        x.apply();
        Check.filter(x, "g<5");
        x.watch(2, 42);
        x.watch(5, 1);
        x.insertLeft(9, 0, 9);
        x.save();
        check.due(40, "batchSize() after save", 1, () -> x.batchSize());
        check.due(40, "changeCount() after save", 0, () -> x.changeCount());
        x.insertRight(9, 2);
        x.insertRight(1, 1);
        x.deleteLeft(1, 2, 3);
        x.apply();
        x.clearFilter();
        x.clearWatches();
        x.watch(0, 18);
        x.watch(0, 19);
        x.watch(0, 20);
        x.insertLeft(0, 0, 0);
        check.due(41, "restore()", "restored", () -> restore(x));
        check.due(41, "leftSize()", 3, () -> x.leftSize());
        check.due(41, "rightSize()", 1, () -> x.rightSize());
        check.due(41, "leftCount(1, 2, 3)", 2, () -> x.leftCount(1, 2, 3));
        check.due(41, "leftCount(9, 0, 9): the batch is not saved", 0, () -> x.leftCount(9, 0, 9));
        check.due(41, "rightCount(1, 7)", 1, () -> x.rightCount(1, 7));
        check.due(41, "joinRow", "1,2,21*2", () -> Check.joinRows(x));
        check.due(41, "danglingRow", "4,5,6", () -> Check.danglingRows(x));
        check.due(41, "the filter", false, () -> x.accepts(4, 5, 6, 1));
        check.due(41, "isRaised(0)", true, () -> x.isRaised(0));
        check.due(41, "isRaised(1)", false, () -> x.isRaised(1));
        check.badIndex(41, "isRaised(2)", () -> x.isRaised(2));
        check.due(41, "batchSize()", 0, () -> x.batchSize());
        check.due(41, "changeCount()", 0, () -> x.changeCount());
        check.due(41, "changedWatches()", 0, () -> x.changedWatches());
        check.badState(41, "rollback()", () -> x.rollback());
        check.due(41, "apply() of the empty batch", 0, () -> x.apply());
        check.due(41, "leftSize() after apply", 3, () -> x.leftSize());
        x.clearWatches();
        x.clearFilter();
        x.deleteRight(1, 7);
        x.apply();
        check.due(41, "restore() again", "restored", () -> restore(x));
        check.due(41, "joinSize() again", 2, () -> x.joinSize());
        check.due(41, "the filter again", false, () -> x.accepts(4, 5, 6, 1));
        check.due(41, "clearWatches() again", 2, () -> x.clearWatches());
        check.badState(41, "rollback() again", () -> x.rollback());
    }

    private static void saveAgain() {
        ViewMaintainer x = new ViewMaintainer();
        x.save();
        x.insertLeft(0, 0, 1);
        x.insertRight(0, 1);
        x.apply();
        x.watch(0, 0);
        x.save();
        x.clearWatches();
        x.rollback();
        check.due(40, "joinSize() after rollback", 0, () -> x.joinSize());
        x.restore();
        check.due(40, "joinSize() of the second save", 1, () -> x.joinSize());
        check.due(40, "clearWatches() of the second save", 1, () -> x.clearWatches());
        x.deleteLeft(0, 0, 1);
        x.deleteRight(0, 1);
        x.apply();
        x.save();
        x.restore();
        check.due(40, "leftSize() of the third save", 0, () -> x.leftSize());
        check.due(40, "clearWatches() of the third save", 0, () -> x.clearWatches());
    }

    private static void textAndFault() {
        ViewMaintainer x = new ViewMaintainer();
        Check.told(() -> Check.filter(x, "k<x"));
        Check.type(x, "k<");
        x.save();
        Check.type(x, "3");
        x.restore();
        check.due(41, "faultPosition() stays", 2, () -> x.faultPosition());
        check.due(41, "the text stays", 4, () -> x.appendCharacter('4'));
        x.setFilter();
        check.due(41, "the text is the filter", true, () -> x.accepts(9, 0, 0, 0));
        x.restore();
        check.due(41, "faultPosition() stays at -1", -1, () -> x.faultPosition());
        check.due(41, "the text is still empty", 1, () -> x.appendCharacter('k'));
    }

    private static void restoreWithoutSave() {
        ViewMaintainer x = new ViewMaintainer();
        x.insertLeft(0, 0, 1);
        x.insertRight(0, 1);
        x.apply();
        x.insertLeft(1, 1, 1);
        check.badState(41, "restore() without save", () -> restore(x));
        check.due(41, "batchSize() after it", 1, () -> x.batchSize());
        check.due(41, "changeCount() after it", 1, () -> x.changeCount());
        check.due(41, "rollback() after it", 1, () -> x.rollback());
    }
}
