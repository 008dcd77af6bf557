/** Promises 31 to 34: the watches. */
public final class WatchesTest {
    private static final Check check = new Check();
    private static final int LOW = Integer.MIN_VALUE;
    private static final int HIGH = Integer.MAX_VALUE;

    public static void main(String[] args) {
        watch();
        isRaised();
        changedWatches();
        changedWatchesWithoutChange();
        clearWatches();
        check.finish();
    }

    private static void watch() {
        ViewMaintainer x = new ViewMaintainer();
        for (int bad : new int[] {LOW, -1, 6, HIGH}) {
            check.badIndex(31, "watch(" + bad + ", 0)", () -> x.watch(bad, 0));
        }
        for (int i = 0; i < 6; i++) {
            int group = i;
            check.due(31, "watch " + i, i, () -> x.watch(group, HIGH));
        }
        check.badState(31, "7th watch", () -> x.watch(0, 0));
        check.badIndex(31, "7th watch of a wrong group", () -> x.watch(6, 0));
        check.due(34, "clearWatches() of 6", 6, () -> x.clearWatches());
    }

    private static void isRaised() {
        ViewMaintainer x = new ViewMaintainer();
        x.watch(2, 10);
        x.watch(2, 11);
        x.watch(2, -5);
        x.watch(3, LOW);
        x.watch(1, HIGH);
        x.insertLeft(0, 2, 5);
        x.insertRight(0, 2);
        check.due(32, "isRaised(2) of an empty group", false, () -> x.isRaised(2));
        x.apply();
        check.due(32, "isRaised(0) at the bound", true, () -> x.isRaised(0));
        check.due(32, "isRaised(1) below the bound", false, () -> x.isRaised(1));
        check.due(32, "isRaised(2) above the bound", true, () -> x.isRaised(2));
        check.due(32, "isRaised(3) of an empty group", false, () -> x.isRaised(3));
        check.due(32, "isRaised(4) of an empty group", false, () -> x.isRaised(4));
        for (int bad : new int[] {LOW, -1, 5, 6, HIGH}) {
            check.badIndex(32, "isRaised(" + bad + ")", () -> x.isRaised(bad));
        }
        Check.filter(x, "v<5");
        check.due(32, "isRaised(0) under a filter", false, () -> x.isRaised(0));
        check.due(32, "isRaised(2) under a filter", false, () -> x.isRaised(2));
    }

    private static void changedWatches() {
        ViewMaintainer x = new ViewMaintainer();
        x.watch(0, 10);
        x.watch(0, 0);
        x.watch(1, 0);
        x.watch(2, 5);
        x.insertLeft(0, 0, 10);
        x.insertLeft(0, 2, 5);
        x.insertRight(0, 1);
        check.due(33, "changedWatches() before apply", 0, () -> x.changedWatches());
        x.apply();
        check.due(33, "changedWatches() raised", 0b1011, () -> x.changedWatches());
        x.insertLeft(0, 0, -1);
        x.insertLeft(0, 1, 0);
        x.apply();
        check.due(33, "changedWatches() one down, one up", 0b0101, () -> x.changedWatches());
        x.apply();
        check.due(33, "changedWatches() of an empty apply", 0, () -> x.changedWatches());
        x.rollback();
        check.due(33, "changedWatches() of its rollback", 0, () -> x.changedWatches());
        x.rollback();
        check.due(33, "changedWatches() of rollback", 0b0101, () -> x.changedWatches());
        x.watch(0, 9);
        check.due(33, "changedWatches() with a new watch", 0b00101, () -> x.changedWatches());
        x.watch(0, 10);
        check.due(33, "changedWatches() with another", 0b100101, () -> x.changedWatches());
        x.deleteLeft(0, 0, 10);
        x.apply();
        // A group without rows is below every bound.
        check.due(33, "changedWatches() of a group that got empty", 0b110011, () -> x.changedWatches());
    }

    private static void changedWatchesWithoutChange() {
        ViewMaintainer x = new ViewMaintainer();
        x.watch(0, 3);
        x.insertLeft(0, 0, 3);
        x.insertRight(0, 1);
        x.apply();
        check.due(33, "changedWatches()", 1, () -> x.changedWatches());
        x.save();
        Check.told(() -> x.setFilter());
        check.due(33, "changedWatches() after a wrong filter text", 1, () -> x.changedWatches());
        Check.filter(x, "v<3");
        check.due(33, "changedWatches() after setFilter", 0, () -> x.changedWatches());
        x.insertLeft(0, 0, 2);
        x.insertRight(0, 2);
        x.apply();
        check.due(33, "changedWatches() under a filter", 1, () -> x.changedWatches());
        x.clearFilter();
        check.due(33, "changedWatches() after clearFilter", 0, () -> x.changedWatches());
        x.rollback();
        check.due(33, "changedWatches() of a rollback under another filter", 0, () -> x.changedWatches());
        x.deleteRight(0, 1);
        x.apply();
        check.due(33, "changedWatches() before restore", 1, () -> x.changedWatches());
        x.restore();
        check.due(33, "changedWatches() after restore", 0, () -> x.changedWatches());
    }

    private static void clearWatches() {
        ViewMaintainer x = new ViewMaintainer();
        check.due(34, "clearWatches() of none", 0, () -> x.clearWatches());
        x.insertLeft(0, 0, 1);
        x.insertRight(0, 1);
        x.apply();
        x.watch(0, 1);
        x.watch(0, 2);
        check.due(34, "changedWatches() before clearWatches", 1, () -> x.changedWatches());
        check.due(34, "clearWatches()", 2, () -> x.clearWatches());
        check.due(34, "changedWatches() after clearWatches", 0, () -> x.changedWatches());
        check.badIndex(34, "isRaised(0) after clearWatches", () -> x.isRaised(0));
        check.due(34, "clearWatches() again", 0, () -> x.clearWatches());
        check.due(34, "watch after clearWatches", 0, () -> x.watch(0, 2));
        check.due(34, "isRaised(0) of the new watch", false, () -> x.isRaised(0));
        check.due(34, "changeCount() after clearWatches", 1, () -> x.changeCount());
    }
}
