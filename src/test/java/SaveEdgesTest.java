/** Promises 40 and 41, sentence by sentence where one names an edge. */
public final class SaveEdgesTest {
    public static void main(String[] args) {
        saveOfNothing();
        saveOfFullTables();
        saveLeavesAll();
        saveInPlace();
        savedIsApart();
        batchIsNotSaved();
        restoreTables();
        restoreFilter();
        restoreWatches();
        restoreEmptiesTheBatch();
        restoreForgetsCalls();
        restoreLeavesNoChange();
        theyStaySaved();
        nothingWasSaved();
        Subject.finish();
    }

    private static void saveOfNothing() {
        Subject.about("Saves the tables, the filter and the watches: also when all of them are empty");
        Subject x = new Subject().due("save()", Subject.NOTHING).make("insertLeft(0, 0, 1)", "insertRight(0, 1)", "apply()");
        x.filter("k=0").make("watch(0, 0)").due("restore()", Subject.NOTHING);
        x.due("leftSize()", 0).due("rightSize()", 0).due("joinSize()", 0).due("accepts(1, 0, 0, 0)", true);
        x.due("clearWatches()", 0).due("batchSize()", 0).due("changeCount()", 0);
        Subject.Maker fresh = () -> new Subject().make("save()");
        Subject.Maker restored = () -> new Subject().make("save()", "insertLeft(0, 0, 1)", "insertRight(0, 1)", "apply()",
                "watch(0, 0)", "apply()").filter("k=9").make("restore()");
        Subject.same("the portrait", Portrait.of(restored), Portrait.of(fresh));
    }

    private static void saveOfFullTables() {
        Subject.about("Saves the tables, the filter and the watches: also when all of them are full");
        Subject x = new Subject();
        for (int i = 0; i < 60; i++) {
            x.make(Subject.call("insertLeft", i / 6, i % 6, i - 30), Subject.call("insertRight", i / 6, i % 6));
            if (i % 20 == 19) {
                x.make("apply()");
            }
        }
        x.times(6, "watch(5, -99)").filter("!(k=0|k=1|k=2|k=3|k=4|k=5|k=6|k=7|k=999)").make("save()");
        x.due("joinSize()", 72).make("clearFilter()", "clearWatches()");
        for (int i = 0; i < 40; i++) {
            x.make(Subject.call("deleteLeft", i / 6, i % 6, i - 30));
        }
        x.make("apply()", "restore()").due("leftSize()", 60).due("rightSize()", 60).due("joinSize()", 72);
        for (int i = 0; i < 60; i++) {
            x.due(Subject.call("leftCount", i / 6, i % 6, i - 30), 1);
            x.due(Subject.call("rightCount", i / 6, i % 6), 1);
        }
        x.due("isRaised(5)", true).due("watch(0, 0)", Subject.STATE).due("insertLeft(0, 0, 0)", Subject.STATE);
        x.due("insertRight(0, 0)", Subject.STATE).due("deleteLeft(9, 5, 29)", 1).due("danglingCount()", 48);
    }

    private static void saveLeavesAll() {
        Subject.about("Saves the tables, the filter and the watches: and changes none of them");
        Subject.Maker before = () -> new Subject().make("save()", "insertLeft(1, 1, 1)", "insertRight(1, 1)", "watch(1, 1)")
                .filter("k=1").make("apply()", "insertRight(1, 3)").wrongFilter("x").type("k=");
        Subject.Maker after = () -> before.make().make("save()");
        for (String part : new String[] {"now ", "applied ", "discarded ", "rolled back ", "rows planned ", "fault ", "text "}) {
            Subject.same(part, partOf(Portrait.of(after), part), partOf(Portrait.of(before), part));
        }
    }

    private static String partOf(String portrait, String part) {
        for (String line : portrait.split("\n")) {
            if (line.startsWith(part)) {
                return line;
            }
        }
        throw new AssertionError(part);
    }

    private static void saveInPlace() {
        Subject.about("in place of what was saved before.");
        Subject x = new Subject().make("insertLeft(1, 1, 1)", "insertRight(1, 1)", "apply()", "watch(1, 1)").filter("k=1");
        x.make("save()", "deleteLeft(1, 1, 1)", "apply()", "clearWatches()", "clearFilter()", "save()");
        x.make("insertLeft(2, 2, 2)", "apply()", "restore()").due("leftSize()", 0).due("rightSize()", 1);
        x.due("clearWatches()", 0).due("accepts(2, 0, 0, 0)", true);
        x.make("insertLeft(3, 3, 3)", "apply()", "watch(3, 3)").filter("k=3").make("save()", "restore()");
        x.due("leftCount(3, 3, 3)", 1).due("clearWatches()", 1).due("accepts(2, 0, 0, 0)", false);
    }

    private static void savedIsApart() {
        Subject.about("Restores the tables, the filter and the watches as they were saved last");
        Subject x = new Subject().make("insertLeft(1, 1, 1)", "insertRight(1, 1)", "apply()", "watch(1, 2)").filter("g=1");
        x.make("save()");
        for (int round = 0; round < 3; round++) {
            x.make("insertLeft(1, 1, 5)", "deleteRight(1, 1)", "insertRight(1, 2)", "apply()", "watch(1, 1)", "watch(2, 2)");
            x.filter("g=5").make("restore()").due("leftSize()", 1).due("leftCount(1, 1, 1)", 1).due("rightCount(1, 1)", 1);
            x.due("rightCount(1, 2)", 0).due("accepts(0, 1, 0, 0)", true).due("accepts(0, 5, 0, 0)", false);
            x.due("isRaised(0)", false).due("isRaised(1)", Subject.INDEX).due("joinSize()", 1);
        }
    }

    private static void batchIsNotSaved() {
        Subject.about("Saves the tables: without the batch");
        Subject x = new Subject().make("insertLeft(1, 1, 1)", "save()").due("batchSize()", 1).due("apply()", 0);
        x.due("leftSize()", 1).make("restore()").due("leftSize()", 0).due("batchSize()", 0);
        x.due("deleteLeft(1, 1, 1)", Subject.ELEMENT).due("apply()", 0).due("leftSize()", 0);
    }

    private static void restoreTables() {
        Subject.about("Restores the tables");
        Subject x = new Subject().times(2, "insertLeft(1, 1, 1)").make("insertLeft(9, 5, 99)").times(3, "insertRight(1, -9)");
        x.make("apply()", "save()").times(2, "deleteLeft(1, 1, 1)").make("deleteLeft(9, 5, 99)").times(3, "deleteRight(1, -9)");
        x.make("apply()").due("leftSize()", 0).due("rightSize()", 0).make("restore()");
        x.due("leftSize()", 3).due("rightSize()", 3).due("leftCount(1, 1, 1)", 2).due("leftCount(9, 5, 99)", 1);
        x.due("rightCount(1, -9)", 3).due("joinCount(1, 1, -9)", 6).due("danglingCount()", 1).due("groupSum(1)", -54);
        x.due("deleteLeft(1, 1, 1)", 1).due("deleteLeft(1, 1, 1)", 2).due("deleteLeft(1, 1, 1)", Subject.ELEMENT);
    }

    private static void restoreFilter() {
        Subject.about("Restores ... the filter");
        Subject x = new Subject().filter("k<5&!v=0|f>8").make("save()", "clearFilter()").due("accepts(9, 0, 0, 0)", true);
        x.make("restore()").due("accepts(9, 0, 0, 0)", false).due("accepts(4, 0, 1, 0)", true);
        x.due("accepts(5, 0, 1, 0)", false).due("accepts(4, 0, 0, 0)", false).due("accepts(9, 0, 0, 9)", true);
        x.make("clearFilter()", "save()").filter("k=0").make("restore()").due("accepts(9, 0, 0, 0)", true);
        x.filter("k=0").make("save()").wrongFilter("k=1)").make("restore()").due("accepts(0, 0, 0, 0)", true);
        x.due("accepts(1, 0, 0, 0)", false);
    }

    private static void restoreWatches() {
        Subject.about("Restores ... the watches");
        for (int saved = 0; saved <= 6; saved++) {
            Subject x = new Subject().make("insertLeft(0, 0, 3)", "insertRight(0, 1)", "apply()");
            for (int i = 0; i < saved; i++) {
                x.make(Subject.call("watch", 0, i + 1));
            }
            x.make("save()", "clearWatches()").times(6, "watch(0, 0)").make("restore()");
            for (int i = 0; i < 6; i++) {
                x.due(Subject.call("isRaised", i), i < saved ? i < 3 : Subject.INDEX);
            }
            x.due("watch(0, 0)", saved < 6 ? saved : Subject.STATE).due("clearWatches()", Math.min(saved + 1, 6));
            x.make("restore()").due("clearWatches()", saved);
        }
    }

    private static void restoreEmptiesTheBatch() {
        Subject.about("restore ... empties the batch.");
        for (int changes : new int[] {0, 1, 39, 40}) {
            Subject x = new Subject().make("insertLeft(1, 1, 1)", "apply()", "save()").times(changes, "insertRight(1, 1)");
            x.make("restore()").due("batchSize()", 0).due("discard()", 0).due("deleteRight(1, 1)", Subject.ELEMENT);
            x.due("apply()", 0).due("rightSize()", 0).due("leftSize()", 1);
        }
        Subject y = new Subject().make("insertLeft(1, 1, 1)", "apply()", "save()", "deleteLeft(1, 1, 1)", "restore()");
        y.due("deleteLeft(1, 1, 1)", 1).due("deleteLeft(1, 1, 1)", Subject.ELEMENT);
    }

    private static void restoreForgetsCalls() {
        Subject.about("a call of restore forgets all of them: those before save and those after it");
        Subject x = new Subject().times(3, "apply()").make("save()").due("rollback()", 0).times(4, "apply()").make("restore()");
        x.due("rollback()", Subject.STATE).make("restore()").due("rollback()", Subject.STATE);
        x.due("apply()", 0).due("rollback()", 0).due("rollback()", Subject.STATE);
        for (int i = 1; i <= 5; i++) {
            x.make("insertLeft(0, 0, 0)", "apply()");
        }
        for (int i = 4; i >= 1; i--) {
            x.due("rollback()", 0).due("leftSize()", i);
        }
        x.due("rollback()", Subject.STATE).due("leftSize()", 1);
    }

    private static void restoreLeavesNoChange() {
        Subject.about("The latest change ... is empty ... after each successful call of ... restore: though the join changes");
        Subject x = new Subject().make("insertLeft(1, 1, 1)", "insertRight(1, 1)", "watch(1, 1)", "apply()", "save()");
        x.due("changeCount()", 1).due("changedWatches()", 1).make("deleteRight(1, 1)").due("apply()", 1);
        x.make("restore()").due("joinSize()", 1).due("changeCount()", 0).due("changedWatches()", 0);
        x.due("changeRow(0, 0)", Subject.INDEX).due("isRaised(0)", true).due("apply()", 0).due("changedWatches()", 0);
    }

    private static void theyStaySaved() {
        Subject.about("They stay saved.");
        Subject x = new Subject().make("insertLeft(1, 1, 1)", "insertRight(1, 1)", "apply()", "watch(1, 1)").filter("k=1");
        x.make("save()");
        for (int i = 0; i < 4; i++) {
            x.make("deleteLeft(1, 1, 1)", "deleteRight(1, 1)", "apply()", "clearWatches()", "clearFilter()");
            x.due("leftSize()", 0).due("restore()", Subject.NOTHING).due("leftSize()", 1).due("rightSize()", 1);
            x.due("isRaised(0)", true).due("accepts(0, 0, 0, 0)", false).due("joinSize()", 1);
        }
        x.due("restore()", Subject.NOTHING).due("restore()", Subject.NOTHING).due("joinSize()", 1);
    }

    private static void nothingWasSaved() {
        Subject.about("restore throws IllegalStateException if nothing was saved");
        Subject x = new Subject().due("restore()", Subject.STATE).make("insertLeft(1, 1, 1)", "apply()");
        x.due("restore()", Subject.STATE).due("leftSize()", 1).make("insertLeft(1, 1, 1)").due("restore()", Subject.STATE);
        x.due("batchSize()", 1).due("rollback()", 0).due("leftSize()", 0).make("save()").due("restore()", Subject.NOTHING);
        new Subject().make("save()").due("restore()", Subject.NOTHING).due("rollback()", Subject.STATE);
    }
}
