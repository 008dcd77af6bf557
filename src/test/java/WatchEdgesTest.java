/** Promises 31 to 34 and what "Description" says of watches, where a sentence names an edge. */
public final class WatchEdgesTest {
    public static void main(String[] args) {
        atMost6Watches();
        numbersFrom0();
        watchGroups();
        watchFull();
        raisedAtItsBound();
        notRaisedWithoutRows();
        raisedAtFarBounds();
        raisedIsAskedNow();
        noSuchWatch();
        changedUp();
        changedDown();
        changedByRows();
        changedAllSix();
        changedByTheLatestChangeOnly();
        changedIsNoneWithoutChange();
        changedOfLaterWatches();
        clearWatches();
        Subject.finish();
    }

    /** The sum of group 2 is the value of the one row. */
    private static Subject sumOf(int sum) {
        return new Subject().make(Subject.call("insertLeft", 0, 2, sum), "insertRight(0, 1)", "apply()");
    }

    private static void atMost6Watches() {
        Subject.about("There are at most 6 watches");
        Subject x = new Subject().times(4, "watch(0, 0)").due("watch(1, 1)", 4).due("isRaised(4)", false);
        x.due("isRaised(5)", Subject.INDEX).due("watch(2, 2)", 5).due("isRaised(5)", false);
        x.due("watch(3, 3)", Subject.STATE).due("isRaised(6)", Subject.INDEX).due("clearWatches()", 6);
        x.times(6, "watch(5, 5)").due("watch(5, 5)", Subject.STATE).due("clearWatches()", 6);
    }

    private static void numbersFrom0() {
        Subject.about("numbered from 0");
        Subject x = sumOf(3);
        for (int i = 0; i < 6; i++) {
            x.due(Subject.call("watch", 2, i), i).due(Subject.call("isRaised", i), i <= 3);
            x.due(Subject.call("isRaised", i + 1), Subject.INDEX);
        }
        for (int i = 0; i < 6; i++) {
            x.due(Subject.call("isRaised", i), i <= 3);
        }
        x.due("isRaised(-1)", Subject.INDEX).make("clearWatches()").due("watch(2, 4)", 0).due("isRaised(0)", false);
    }

    private static void watchGroups() {
        Subject.about("watch throws IndexOutOfBoundsException if there is no such group");
        new Subject().range(Subject.INDEX, 0, 0, 5, "watch", 0, 0).due("clearWatches()", 4);
        Subject x = new Subject().due("watch(-1, 0)", Subject.INDEX).due("watch(6, 0)", Subject.INDEX);
        x.due("isRaised(0)", Subject.INDEX).due("watch(5, 0)", 0).due("watch(6, 0)", Subject.INDEX).due("watch(0, 0)", 1);
        x.times(4, "watch(0, 0)").due("watch(6, 0)", Subject.INDEX).due("watch(-1, 0)", Subject.INDEX);
        x.due("clearWatches()", 6);
    }

    private static void watchFull() {
        Subject.about("watch throws IllegalStateException if there are 6 watches");
        Subject x = sumOf(1);
        for (int i = 0; i < 6; i++) {
            x.due(Subject.call("watch", 2, i), i);
        }
        for (int group = 0; group <= 5; group++) {
            x.due(Subject.call("watch", group, -1), Subject.STATE);
        }
        x.due("isRaised(1)", true).due("isRaised(2)", false).due("isRaised(5)", false).due("clearWatches()", 6);
        x.due("watch(2, 1)", 0).due("isRaised(0)", true);
        Subject saved = new Subject().times(6, "watch(0, 0)").make("save()", "clearWatches()").due("watch(0, 0)", 0);
        saved.make("restore()").due("watch(0, 0)", Subject.STATE);
    }

    private static void raisedAtItsBound() {
        Subject.about("It is raised if the group has at least one row and its sum is not less than the bound.");
        for (int sum : new int[] {-99, -1, 0, 1, 99}) {
            Subject x = sumOf(sum).make(Subject.call("watch", 2, sum - 1), Subject.call("watch", 2, sum),
                    Subject.call("watch", 2, sum + 1));
            x.due("isRaised(0)", true).due("isRaised(1)", true).due("isRaised(2)", false);
            x.make("insertLeft(0, 2, -1)", "apply()").due("isRaised(0)", true).due("isRaised(1)", false);
            x.make("insertLeft(0, 2, -1)", "apply()").due("isRaised(0)", false).due("isRaised(1)", false);
            x.make("insertLeft(0, 2, 3)", "apply()");
            x.due("isRaised(0)", true).due("isRaised(1)", true).due("isRaised(2)", true);
        }
    }

    private static void notRaisedWithoutRows() {
        Subject.about("It is raised if the group has at least one row: not without rows");
        Subject x = new Subject().make("watch(2, 0)", "watch(2, -1)", "watch(2, -2147483648)", "watch(3, 0)");
        for (int i = 0; i < 4; i++) {
            x.due(Subject.call("isRaised", i), false);
        }
        x.make("insertLeft(0, 2, 0)", "apply()").due("isRaised(0)", false).due("isRaised(2)", false);
        x.make("insertRight(0, 0)", "apply()").due("isRaised(0)", true).due("isRaised(1)", true).due("isRaised(3)", false);
        x.filter("g=3").due("isRaised(0)", false).due("isRaised(2)", false).make("clearFilter()").due("isRaised(0)", true);
        x.make("deleteRight(0, 0)", "apply()").due("isRaised(0)", false).due("isRaised(2)", false);
    }

    private static void raisedAtFarBounds() {
        Subject.about("It is raised if ... its sum is not less than the bound: at the ends of the type");
        for (int sum : new int[] {-99, 0, 99}) {
            Subject x = sumOf(sum).make("watch(2, -2147483648)", "watch(2, -2147483647)", "watch(2, 2147483646)",
                    "watch(2, 2147483647)");
            x.due("isRaised(0)", true).due("isRaised(1)", true).due("isRaised(2)", false).due("isRaised(3)", false);
            x.make("deleteLeft(0, 2, " + sum + ")", "apply()").due("isRaised(0)", false).due("changedWatches()", 3);
        }
    }

    private static void raisedIsAskedNow() {
        Subject.about("Returns whether a watch is raised.");
        Subject x = sumOf(5).make("watch(2, 5)", "insertLeft(0, 2, -1)").due("isRaised(0)", true);
        x.make("discard()").due("isRaised(0)", true).make("insertLeft(0, 2, -1)", "apply()").due("isRaised(0)", false);
        x.make("rollback()").due("isRaised(0)", true).filter("v<5").due("isRaised(0)", false);
        x.make("clearFilter()").due("isRaised(0)", true).make("save()", "deleteRight(0, 1)", "apply()");
        x.due("isRaised(0)", false).make("restore()").due("isRaised(0)", true);
    }

    private static void noSuchWatch() {
        Subject.about("isRaised throws IndexOutOfBoundsException if there is no such watch");
        Subject x = new Subject().due("isRaised(0)", Subject.INDEX).due("isRaised(-1)", Subject.INDEX);
        x.make("watch(0, 0)").due("isRaised(-1)", Subject.INDEX).due("isRaised(0)", false).due("isRaised(1)", Subject.INDEX);
        x.make("watch(1, 0)", "watch(2, 0)").range(Subject.INDEX, 0, 0, 2, "isRaised", 0);
        x.make("watch(3, 0)", "watch(4, 0)", "watch(5, 0)").range(Subject.INDEX, 0, 0, 5, "isRaised", 0);
        x.make("clearWatches()").due("isRaised(0)", Subject.INDEX).due("isRaised(5)", Subject.INDEX);
    }

    private static void changedUp() {
        Subject.about("Returns the watches that are raised now and would not be raised if the latest change was undone");
        Subject x = sumOf(10).make("watch(2, 10)", "watch(2, 11)", "watch(2, 12)", "watch(2, 13)");
        x.make("insertLeft(0, 2, 2)").due("apply()", 1).due("changedWatches()", 0b0110);
        x.make("insertLeft(0, 2, 0)").due("apply()", 1).due("changedWatches()", 0);
        x.make("insertLeft(0, 2, 1)").due("apply()", 1).due("changedWatches()", 0b1000);
        x.due("rollback()", 1).due("changedWatches()", 0b1000).due("rollback()", 1).due("changedWatches()", 0);
    }

    private static void changedDown() {
        Subject.about("and those for which it is the other way round.");
        Subject x = sumOf(10).make("watch(2, 8)", "watch(2, 9)", "watch(2, 10)", "watch(2, 11)");
        x.make("insertLeft(0, 2, -1)").due("apply()", 1).due("changedWatches()", 0b0100);
        x.make("insertLeft(0, 2, -1)").due("apply()", 1).due("changedWatches()", 0b0010);
        x.due("rollback()", 1).due("changedWatches()", 0b0010).due("rollback()", 1).due("changedWatches()", 0b0100);
        x.make("insertLeft(0, 2, -3)", "insertLeft(0, 3, 1)", "watch(3, 1)").due("apply()", 2);
        x.due("changedWatches()", 0b10111);
    }

    private static void changedByRows() {
        Subject.about("Returns the watches that are raised now ...: a group without rows raises none");
        Subject x = new Subject().make("watch(2, 0)", "watch(2, -5)", "watch(2, 1)", "insertLeft(0, 2, 0)", "insertRight(0, 1)");
        x.due("apply()", 1).due("changedWatches()", 0b011).make("deleteRight(0, 1)").due("apply()", 1);
        x.due("changedWatches()", 0b011).make("insertRight(1, 1)").due("apply()", 0).due("changedWatches()", 0);
        x.make("insertRight(0, 1)", "insertLeft(0, 2, -5)").due("apply()", 2).due("changedWatches()", 0b010);
        // One row more, the same sum; then rows go and come while the sum stays.
        x.make("insertLeft(0, 2, 0)").due("apply()", 1).due("changedWatches()", 0);
        x.make("deleteLeft(0, 2, -5)", "insertLeft(0, 2, -4)", "insertLeft(0, 2, -1)").due("apply()", 3);
        x.due("changedWatches()", 0);
    }

    private static void changedAllSix() {
        Subject.about("changedWatches returns the set of watches, bit k for watch k.");
        Subject x = new Subject();
        for (int group = 0; group <= 5; group++) {
            x.make(Subject.call("watch", 5 - group, 1));
        }
        for (int group = 0; group <= 5; group++) {
            x.make(Subject.call("insertLeft", 0, group, 1), group == 0 ? "insertRight(0, 1)" : "batchSize()");
            x.due("apply()", 1).due("changedWatches()", 1 << 5 - group);
        }
        x.make("deleteRight(0, 1)").due("apply()", 6).due("changedWatches()", 63);
        x.due("rollback()", 6).due("changedWatches()", 63).due("rollback()", 1).due("changedWatches()", 1);
    }

    private static void changedByTheLatestChangeOnly() {
        Subject.about("if the latest change was undone: the latest one only, as long as it is the latest");
        Subject x = sumOf(5).make("watch(2, 5)", "watch(2, 6)").due("changedWatches()", 1);
        x.make("insertLeft(0, 2, 1)").due("changedWatches()", 1).due("apply()", 1).due("changedWatches()", 2);
        x.make("insertLeft(9, 2, 1)").due("apply()", 0).due("changedWatches()", 0).due("apply()", 0);
        x.due("changedWatches()", 0).due("rollback()", 0).due("rollback()", 0).due("changedWatches()", 0);
        x.due("rollback()", 1).due("changedWatches()", 2).due("rollback()", 1).due("changedWatches()", 1);
        x.due("rollback()", Subject.STATE).due("changedWatches()", 1);
    }

    private static void changedIsNoneWithoutChange() {
        Subject.about("changedWatches: the latest change is empty at first, and after each successful call of setFilter, "
                + "clearFilter and restore");
        new Subject().make("watch(2, -1)", "watch(2, 0)").due("changedWatches()", 0);
        for (String call : new String[] {"setFilter()", "clearFilter()", "restore()"}) {
            Subject x = new Subject().make("watch(2, 1)", "save()", "insertLeft(0, 2, 1)", "insertRight(0, 1)").type("v>1");
            x.due("apply()", 1).due("changedWatches()", 1).make(call).due("changedWatches()", 0);
            x.due("isRaised(0)", call.equals("clearFilter()")).due("apply()", 0).due("changedWatches()", 0);
            x.due("rollback()", 0).due("changedWatches()", 0);
        }
        for (int group = 0; group <= 5; group++) {
            Subject x = new Subject().make(Subject.call("watch", group, 1), Subject.call("insertLeft", 0, group, 1),
                    "insertRight(0, 1)");
            x.due("apply()", 1).due("changedWatches()", 1).make("clearFilter()").due("changedWatches()", 0);
            x.filter("v>1").due("changedWatches()", 0).due("isRaised(0)", false);
        }
        Subject failed = new Subject().make("watch(2, 1)", "insertLeft(0, 2, 1)", "insertRight(0, 1)").due("apply()", 1);
        failed.wrongFilter("v>").due("changedWatches()", 1).due("restore()", Subject.STATE).due("changedWatches()", 1);
        failed.make("save()", "discard()").due("changedWatches()", 1);
    }

    private static void changedOfLaterWatches() {
        Subject.about("Returns the watches that are raised now and would not be raised if ...: those that there are now");
        Subject x = sumOf(5).due("changedWatches()", 0).make("watch(2, 6)").due("changedWatches()", 0);
        x.make("watch(2, 5)").due("changedWatches()", 2).make("clearWatches()").due("changedWatches()", 0);
        x.make("watch(2, 5)").due("changedWatches()", 1).make("watch(3, 0)", "watch(2, -1)").due("changedWatches()", 5);
        x.times(2, "watch(2, 0)").make("watch(2, 1)").due("changedWatches()", 0b111101);
        x.due("watch(2, 1)", Subject.STATE).due("changedWatches()", 0b111101);
    }

    private static void clearWatches() {
        Subject.about("Removes all watches. Returns the number of watches that were removed.");
        for (int watches = 0; watches <= 6; watches++) {
            Subject x = sumOf(1).times(watches, "watch(2, 1)").due("changedWatches()", (1 << watches) - 1);
            x.due("clearWatches()", watches).due("changedWatches()", 0).due("isRaised(0)", Subject.INDEX);
            x.due("clearWatches()", 0).due("changeCount()", 1).due("watch(2, 2)", 0).due("isRaised(0)", false);
            x.due("isRaised(1)", Subject.INDEX).due("clearWatches()", 1);
        }
    }
}
