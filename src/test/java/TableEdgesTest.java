/** Promises 1 to 13, sentence by sentence where one names an edge. */
public final class TableEdgesTest {
    public static void main(String[] args) {
        newObject();
        objectsAreApart();
        insertLeftRange();
        insertLeftAnswer();
        insertLeftFull();
        deleteLeftRange();
        deleteLeftFull();
        deleteLeftOccurrence();
        deleteLeftMissing();
        insertRightRange();
        insertRightFull();
        deleteRightRange();
        deleteRightFull();
        deleteRightOccurrence();
        deleteRightMissing();
        batchSize();
        discard();
        discardChangesNothingElse();
        applyTakesEffect();
        applyOfAnEmptyBatch();
        applyAnswers();
        rollbackUndoes();
        rollbackEmptiesTheBatch();
        rollbackOfFour();
        rollbackOverTheRing();
        rollbackAfterRestore();
        rollbackAnswers();
        rollbackOfNothing();
        leftCount();
        rightCount();
        sizes();
        Subject.finish();
    }

    private static void newObject() {
        Subject.about("Creates a maintainer with empty tables, an empty batch, and no watches.");
        Subject x = new Subject().due("leftSize()", 0).due("rightSize()", 0).due("batchSize()", 0);
        x.due("discard()", 0).due("clearWatches()", 0).due("changedWatches()", 0);
        for (int i = -1; i <= 6; i++) {
            x.due(Subject.call("isRaised", i), Subject.INDEX);
        }
        x.due("joinSize()", 0).due("joinDistinct()", 0).due("joinRow(0, 0)", Subject.INDEX);
        x.due("danglingCount()", 0).due("danglingRow(0, 0)", Subject.INDEX);
        x.due("changeCount()", 0).due("changeRow(0, 0)", Subject.INDEX);
        x.due("qualifiedGroups(-2147483648)", 0).due("rankedGroup(0)", Subject.INDEX);
        for (int group = 0; group <= 5; group++) {
            x.due(Subject.call("groupSize", group), 0).due(Subject.call("groupSum", group), 0);
            x.due(Subject.call("groupDistinct", group), 0);
        }
        x.due("faultPosition()", -1).due("rollback()", Subject.STATE).due("restore()", Subject.STATE);
        x.due("appendCharacter(40)", 1).due("watch(0, 0)", 0).due("insertLeft(0, 0, 0)", 1);
    }

    private static void objectsAreApart() {
        Subject.about("Creates a maintainer with empty tables, an empty batch, and no watches: beside another one");
        Subject x = new Subject().make("insertLeft(0, 0, 1)", "insertRight(0, 1)", "watch(0, 0)", "apply()");
        x.filter("k=0").make("save()", "insertLeft(0, 0, 1)").type("k");
        String fresh = Portrait.of(Subject::new);
        Subject y = new Subject();
        y.due("leftSize()", 0).due("rightSize()", 0).due("batchSize()", 0).due("clearWatches()", 0);
        y.due("accepts(1, 0, 0, 0)", true).due("restore()", Subject.STATE).due("rollback()", Subject.STATE);
        x.due("leftSize()", 1).due("batchSize()", 1).due("isRaised(0)", true).due("appendCharacter(61)", 2);
        Subject.same("a new object", Portrait.of(Subject::new), fresh);
    }

    private static void insertLeftRange() {
        Subject.about("insertLeft throws IllegalArgumentException if a number is out of range");
        new Subject().range(Subject.ARGUMENT, 0, 0, 9, "insertLeft", 0, 0, 0).due("batchSize()", 4);
        new Subject().range(Subject.ARGUMENT, 1, 0, 5, "insertLeft", 0, 0, 0).due("batchSize()", 4);
        new Subject().range(Subject.ARGUMENT, 2, -99, 99, "insertLeft", 0, 0, 0).due("batchSize()", 4);
        Subject x = new Subject().due("insertLeft(-1, 5, 99)", Subject.ARGUMENT);
        x.due("insertLeft(9, 6, -99)", Subject.ARGUMENT).due("insertLeft(9, 5, 100)", Subject.ARGUMENT);
        x.due("insertLeft(10, 6, 100)", Subject.ARGUMENT).due("batchSize()", 0).make("apply()").due("leftSize()", 0);
    }

    private static void insertLeftAnswer() {
        Subject.about("insertLeft returns the number of changes in the batch.");
        Subject x = new Subject();
        for (int i = 1; i <= 40; i++) {
            x.due(Subject.call("insertLeft", i % 10, i % 6, i), i).due("batchSize()", i);
        }
        x.make("apply()").due("insertLeft(0, 0, 0)", 1).due("deleteLeft(0, 0, 0)", 2).due("insertLeft(0, 0, 0)", 3);
    }

    private static void insertLeftFull() {
        Subject.about("insertLeft throws IllegalStateException if the batch has 40 changes, or the planned left table "
                + "has 60 rows");
        Subject batch = new Subject().times(39, "insertRight(0, 0)").due("insertLeft(0, 0, 0)", 40);
        batch.due("insertLeft(0, 0, 0)", Subject.STATE).due("batchSize()", 40);
        batch.make("apply()").due("leftSize()", 1);
        Subject table = new Subject().times(40, "insertLeft(0, 0, 0)").make("apply()").times(19, "insertLeft(1, 1, 1)");
        table.due("insertLeft(2, 2, 2)", 20).due("insertLeft(2, 2, 2)", Subject.STATE).due("batchSize()", 20);
        table.make("apply()").due("leftSize()", 60).due("leftCount(2, 2, 2)", 1);
        Subject both = new Subject().times(40, "insertLeft(0, 0, 0)").make("apply()")
                .times(20, "insertLeft(1, 1, 1)").times(20, "insertRight(1, 1)");
        both.due("insertLeft(2, 2, 2)", Subject.STATE).make("apply()").due("leftSize()", 60);
        both.due("rightSize()", 20).due("insertLeft(2, 2, 2)", Subject.STATE).due("deleteLeft(0, 0, 0)", 1);
        both.due("insertLeft(2, 2, 2)", 2).due("insertLeft(2, 2, 2)", Subject.STATE);
    }

    private static void deleteLeftRange() {
        Subject.about("deleteLeft throws IllegalArgumentException if a number is out of range");
        new Subject().range(Subject.ARGUMENT, 0, 0, 9, "deleteLeft", 0, 0, 0);
        new Subject().range(Subject.ARGUMENT, 1, 0, 5, "deleteLeft", 0, 0, 0);
        new Subject().range(Subject.ARGUMENT, 2, -99, 99, "deleteLeft", 0, 0, 0);
        Subject x = new Subject().make("insertLeft(0, 0, -99)", "insertLeft(9, 5, 99)", "apply()");
        x.due("deleteLeft(0, 0, -100)", Subject.ARGUMENT).due("deleteLeft(0, -1, -99)", Subject.ARGUMENT);
        x.due("deleteLeft(-1, 0, -99)", Subject.ARGUMENT).due("deleteLeft(9, 5, 100)", Subject.ARGUMENT);
        x.due("deleteLeft(9, 6, 99)", Subject.ARGUMENT).due("deleteLeft(10, 5, 99)", Subject.ARGUMENT);
        // The next row in order, were a number carried over into the next column.
        x.due("deleteLeft(9, 6, -100)", Subject.ARGUMENT).due("deleteLeft(0, -1, 100)", Subject.ARGUMENT);
        x.due("deleteLeft(0, 0, -99)", 1).due("deleteLeft(9, 5, 99)", 2);
    }

    private static void deleteLeftFull() {
        Subject.about("deleteLeft throws IllegalStateException if the batch has 40 changes");
        Subject x = new Subject().times(39, "insertLeft(0, 0, 0)").due("deleteLeft(0, 0, 0)", 40);
        x.due("deleteLeft(0, 0, 0)", Subject.STATE).due("batchSize()", 40).make("apply()").due("leftSize()", 38);
        Subject y = new Subject().times(38, "insertLeft(0, 0, 0)").due("deleteLeft(0, 0, 0)", 39);
        y.due("deleteLeft(0, 0, 0)", 40).due("deleteLeft(0, 0, 0)", Subject.STATE);
        y.make("discard()").due("deleteLeft(0, 0, 0)", Subject.ELEMENT);
    }

    private static void deleteLeftOccurrence() {
        Subject.about("Adds the deletion of one occurrence of a row of the left table to the batch.");
        Subject x = new Subject().times(3, "insertLeft(5, 4, -3)").make("insertLeft(5, 4, 3)", "apply()");
        x.due("deleteLeft(5, 4, -3)", 1).due("leftCount(5, 4, -3)", 3).make("apply()");
        x.due("leftCount(5, 4, -3)", 2).due("leftCount(5, 4, 3)", 1).due("leftSize()", 3);
        x.due("deleteLeft(5, 4, -3)", 1).due("deleteLeft(5, 4, -3)", 2).due("deleteLeft(5, 4, -3)", Subject.ELEMENT);
        x.make("apply()").due("leftCount(5, 4, -3)", 0).due("leftCount(5, 4, 3)", 1).due("leftSize()", 1);
    }

    private static void deleteLeftMissing() {
        Subject.about("deleteLeft throws NoSuchElementException if the planned left table does not contain the row");
        Subject x = new Subject().due("deleteLeft(4, 3, 0)", Subject.ELEMENT).make("insertLeft(4, 3, 0)");
        String[] neighbours = {"deleteLeft(3, 3, 0)", "deleteLeft(5, 3, 0)", "deleteLeft(4, 2, 0)",
            "deleteLeft(4, 4, 0)", "deleteLeft(4, 3, -1)", "deleteLeft(4, 3, 1)"};
        for (String call : neighbours) {
            x.due(call, Subject.ELEMENT);
        }
        x.due("batchSize()", 1).due("deleteLeft(4, 3, 0)", 2).due("deleteLeft(4, 3, 0)", Subject.ELEMENT);
        x.make("insertLeft(4, 3, 0)", "apply()");
        for (String call : neighbours) {
            x.due(call, Subject.ELEMENT);
        }
        x.due("batchSize()", 0).due("deleteLeft(4, 3, 0)", 1).due("deleteLeft(4, 3, 0)", Subject.ELEMENT);
        x.make("insertRight(4, 0)").due("deleteLeft(4, 0, 0)", Subject.ELEMENT).due("batchSize()", 2);
    }

    private static void insertRightRange() {
        Subject.about("insertRight throws IllegalArgumentException if a number is out of range");
        new Subject().range(Subject.ARGUMENT, 0, 0, 9, "insertRight", 0, 0).due("batchSize()", 4);
        new Subject().range(Subject.ARGUMENT, 1, -9, 9, "insertRight", 0, 0).due("batchSize()", 4);
        Subject x = new Subject().due("insertRight(-1, 9)", Subject.ARGUMENT).due("insertRight(9, 10)", Subject.ARGUMENT);
        x.due("insertRight(10, -10)", Subject.ARGUMENT).due("batchSize()", 0).make("apply()").due("rightSize()", 0);
    }

    private static void insertRightFull() {
        Subject.about("insertRight throws IllegalStateException if the batch has 40 changes, or the planned right "
                + "table has 60 rows");
        Subject batch = new Subject().times(39, "insertLeft(0, 0, 0)").due("insertRight(0, 0)", 40);
        batch.due("insertRight(0, 0)", Subject.STATE).due("batchSize()", 40);
        batch.make("apply()").due("rightSize()", 1);
        Subject table = new Subject().times(40, "insertRight(0, 0)").make("apply()").times(19, "insertRight(1, 1)");
        table.due("insertRight(2, 2)", 20).due("insertRight(2, 2)", Subject.STATE).due("batchSize()", 20);
        table.make("apply()").due("rightSize()", 60).due("rightCount(2, 2)", 1);
        Subject both = new Subject().times(40, "insertRight(0, 0)").make("apply()")
                .times(20, "insertRight(1, 1)").times(20, "insertLeft(1, 1, 1)");
        both.due("insertRight(2, 2)", Subject.STATE).make("apply()").due("rightSize()", 60);
        both.due("leftSize()", 20).due("insertRight(2, 2)", Subject.STATE).due("deleteRight(0, 0)", 1);
        both.due("insertRight(2, 2)", 2).due("insertRight(2, 2)", Subject.STATE);
    }

    private static void deleteRightRange() {
        Subject.about("deleteRight throws IllegalArgumentException if a number is out of range");
        new Subject().range(Subject.ARGUMENT, 0, 0, 9, "deleteRight", 0, 0);
        new Subject().range(Subject.ARGUMENT, 1, -9, 9, "deleteRight", 0, 0);
        Subject x = new Subject().make("insertRight(0, -9)", "insertRight(9, 9)", "apply()");
        x.due("deleteRight(0, -10)", Subject.ARGUMENT).due("deleteRight(-1, -9)", Subject.ARGUMENT);
        x.due("deleteRight(9, 10)", Subject.ARGUMENT).due("deleteRight(10, 9)", Subject.ARGUMENT);
        x.due("deleteRight(-1, 10)", Subject.ARGUMENT).due("deleteRight(10, -10)", Subject.ARGUMENT);
        x.due("deleteRight(0, -9)", 1).due("deleteRight(9, 9)", 2);
    }

    private static void deleteRightFull() {
        Subject.about("deleteRight throws IllegalStateException if the batch has 40 changes");
        Subject x = new Subject().times(39, "insertRight(0, 0)").due("deleteRight(0, 0)", 40);
        x.due("deleteRight(0, 0)", Subject.STATE).due("batchSize()", 40).make("apply()").due("rightSize()", 38);
        Subject y = new Subject().times(38, "insertRight(0, 0)").due("deleteRight(0, 0)", 39);
        y.due("deleteRight(0, 0)", 40).due("deleteRight(0, 0)", Subject.STATE);
        y.make("discard()").due("deleteRight(0, 0)", Subject.ELEMENT);
    }

    private static void deleteRightOccurrence() {
        Subject.about("Adds the deletion of one occurrence of a row of the right table to the batch.");
        Subject x = new Subject().times(3, "insertRight(5, -3)").make("insertRight(5, 3)", "apply()");
        x.due("deleteRight(5, -3)", 1).due("rightCount(5, -3)", 3).make("apply()");
        x.due("rightCount(5, -3)", 2).due("rightCount(5, 3)", 1).due("rightSize()", 3);
        x.due("deleteRight(5, -3)", 1).due("deleteRight(5, -3)", 2).due("deleteRight(5, -3)", Subject.ELEMENT);
        x.make("apply()").due("rightCount(5, -3)", 0).due("rightCount(5, 3)", 1).due("rightSize()", 1);
    }

    private static void deleteRightMissing() {
        Subject.about("deleteRight throws NoSuchElementException if the planned right table does not contain the row");
        Subject x = new Subject().due("deleteRight(4, 0)", Subject.ELEMENT).make("insertRight(4, 0)");
        String[] neighbours = {"deleteRight(3, 0)", "deleteRight(5, 0)", "deleteRight(4, -1)", "deleteRight(4, 1)"};
        for (String call : neighbours) {
            x.due(call, Subject.ELEMENT);
        }
        x.due("batchSize()", 1).due("deleteRight(4, 0)", 2).due("deleteRight(4, 0)", Subject.ELEMENT);
        x.make("insertRight(4, 0)", "apply()");
        for (String call : neighbours) {
            x.due(call, Subject.ELEMENT);
        }
        x.due("batchSize()", 0).due("deleteRight(4, 0)", 1).due("deleteRight(4, 0)", Subject.ELEMENT);
        x.make("insertLeft(4, 0, 0)").due("deleteRight(4, 0)", Subject.ELEMENT).due("batchSize()", 2);
    }

    private static void batchSize() {
        Subject.about("batchSize returns 0 to 40.");
        Subject x = new Subject().due("batchSize()", 0);
        for (int i = 1; i <= 40; i++) {
            x.make(i % 2 == 1 ? "insertRight(9, 9)" : "deleteRight(9, 9)").due("batchSize()", i);
        }
        x.due("insertRight(9, 9)", Subject.STATE).due("batchSize()", 40).make("apply()").due("batchSize()", 0);
    }

    private static void discard() {
        Subject.about("Empties the batch without applying it. Returns the number of changes that it had.");
        for (int changes : new int[] {0, 1, 39, 40}) {
            Subject x = new Subject().make("insertLeft(1, 1, 1)", "apply()");
            for (int i = 0; i < changes; i++) {
                x.make(i % 2 == 0 ? "deleteLeft(1, 1, 1)" : "insertLeft(1, 1, 1)");
            }
            x.due("discard()", changes).due("batchSize()", 0).due("discard()", 0);
            x.due("leftCount(1, 1, 1)", 1).due("deleteLeft(1, 1, 1)", 1).due("deleteLeft(1, 1, 1)", Subject.ELEMENT);
            x.due("discard()", 1).due("apply()", 0).due("leftSize()", 1);
        }
        Subject y = new Subject().make("insertLeft(1, 1, 1)", "insertRight(1, 1)").due("discard()", 2);
        y.due("deleteLeft(1, 1, 1)", Subject.ELEMENT).due("deleteRight(1, 1)", Subject.ELEMENT);
        y.due("apply()", 0).due("leftSize()", 0).due("rightSize()", 0);
    }

    private static void discardChangesNothingElse() {
        Subject.about("Empties the batch without applying it: nothing else");
        Subject.Maker before = () -> new Subject().make("insertLeft(1, 1, 5)", "insertRight(1, 2)", "watch(1, 10)", "save()",
                "apply()");
        Subject.Maker after = () -> before.make().make("insertLeft(2, 2, 2)", "deleteRight(1, 2)", "discard()");
        Subject.same("the portrait", Portrait.of(after), Portrait.of(before));
    }

    private static void applyTakesEffect() {
        Subject.about("Applies the batch: its changes take effect, and it is empty then.");
        Subject x = new Subject().times(19, "insertLeft(0, 0, 3)").times(21, "insertRight(0, -2)");
        x.due("batchSize()", 40).due("apply()", 1).due("batchSize()", 0).due("leftSize()", 19);
        x.due("rightSize()", 21).due("joinCount(0, 0, -6)", 19 * 21);
        x.times(19, "deleteLeft(0, 0, 3)").times(21, "deleteRight(0, -2)").due("deleteRight(0, -2)", Subject.STATE);
        x.due("apply()", 1).due("batchSize()", 0).due("leftSize()", 0).due("rightSize()", 0).due("joinSize()", 0);
        x.due("discard()", 0).due("apply()", 0).due("leftSize()", 0);
    }

    private static void applyOfAnEmptyBatch() {
        Subject.about("An empty batch can be applied, too.");
        Subject x = new Subject().due("apply()", 0).due("apply()", 0).due("leftSize()", 0).due("batchSize()", 0);
        x.make("insertLeft(0, 0, 3)", "insertRight(0, 1)").due("apply()", 1).due("apply()", 0);
        x.due("leftSize()", 1).due("joinSize()", 1).due("changeCount()", 0).due("batchSize()", 0);
    }

    private static void applyAnswers() {
        Subject.about("apply returns the number of rows of the latest change.");
        Subject x = new Subject().make("insertLeft(0, 0, 1)").due("apply()", 0).due("changeCount()", 0);
        x.make("insertRight(0, 1)", "insertRight(0, 1)").due("apply()", 1).due("changeCount()", 1);
        x.make("insertRight(0, 2)", "deleteRight(0, 1)").due("apply()", 2).due("changeCount()", 2);
        x.make("deleteRight(0, 1)", "insertRight(0, 1)").due("apply()", 0).due("changeCount()", 0);
        x.make("deleteLeft(0, 0, 1)", "insertLeft(0, 1, 1)").due("apply()", 4).due("changeCount()", 4);
        x.filter("g=0").make("insertLeft(0, 1, 5)").due("apply()", 0).due("changeCount()", 0);
        x.make("insertLeft(0, 0, 5)").due("apply()", 2).due("changeCount()", 2);
    }

    private static void rollbackUndoes() {
        Subject.about("Undoes the latest call of apply that has not been undone");
        Subject x = new Subject().make("insertLeft(0, 0, 1)", "apply()", "insertRight(0, 1)", "apply()",
                "deleteLeft(0, 0, 1)", "insertLeft(0, 1, 2)", "apply()");
        x.due("leftCount(0, 0, 1)", 0).due("leftCount(0, 1, 2)", 1);
        x.due("rollback()", 2).due("leftCount(0, 0, 1)", 1).due("leftCount(0, 1, 2)", 0).due("rightSize()", 1);
        x.due("rollback()", 1).due("leftSize()", 1).due("rightSize()", 0).due("danglingCount()", 1);
        x.make("insertRight(0, 9)").due("apply()", 1).due("rollback()", 1).due("rightSize()", 0);
        x.due("rollback()", 0).due("leftSize()", 0).due("rollback()", Subject.STATE);
    }

    private static void rollbackEmptiesTheBatch() {
        Subject.about("rollback ... empties the batch.");
        for (int changes : new int[] {0, 1, 40}) {
            Subject x = new Subject().make("insertLeft(0, 0, 1)", "apply()", "insertLeft(0, 0, 2)", "apply()");
            x.times(changes, "insertRight(0, 1)").due("rollback()", 0).due("batchSize()", 0).due("discard()", 0);
            x.due("deleteLeft(0, 0, 2)", Subject.ELEMENT).due("deleteRight(0, 1)", Subject.ELEMENT);
            x.due("deleteLeft(0, 0, 1)", 1).due("apply()", 0).due("leftSize()", 0).due("rightSize()", 0);
        }
    }

    private static void rollbackOfFour() {
        Subject.about("At most the 4 latest calls of apply can be undone");
        for (int applied = 0; applied <= 12; applied++) {
            Subject x = new Subject();
            for (int i = 0; i < applied; i++) {
                x.make("insertRight(" + i % 10 + ", " + (i - 9) + ")", "apply()");
            }
            int undone = Math.min(applied, 4);
            for (int i = 1; i <= undone; i++) {
                x.due("rightSize()", applied - i + 1).due("rollback()", 0).due("rightSize()", applied - i);
            }
            x.due("rollback()", Subject.STATE).due("rightSize()", applied - undone);
            for (int i = 0; i < applied; i++) {
                x.due(Subject.call("rightCount", i % 10, i - 9), i < applied - undone ? 1 : 0);
            }
        }
    }

    private static void rollbackOverTheRing() {
        Subject.about("At most the 4 latest calls of apply can be undone: also after others were undone");
        Subject x = new Subject();
        for (int round = 0; round < 9; round++) {
            x.make("insertLeft(0, 0, 1)", "apply()", "insertLeft(0, 0, 2)", "apply()").due("rollback()", 0);
            x.due("leftSize()", round + 1).due("leftCount(0, 0, 2)", 0);
        }
        // Each second call was undone: the three before the last one are still among the 4 latest.
        x.due("rollback()", 0).due("leftSize()", 8).due("rollback()", 0).due("leftSize()", 7);
        x.due("rollback()", 0).due("leftSize()", 6).due("rollback()", Subject.STATE).due("leftSize()", 6);
        x.make("apply()").due("rollback()", 0).due("rollback()", Subject.STATE).due("leftSize()", 6);
    }

    private static void rollbackAfterRestore() {
        Subject.about("a call of restore forgets all of them.");
        for (int applied = 0; applied <= 5; applied++) {
            Subject x = new Subject().make("save()");
            for (int i = 0; i < applied; i++) {
                x.make("insertLeft(0, 0, 1)", "apply()");
            }
            x.make("restore()").due("rollback()", Subject.STATE).due("leftSize()", 0);
            x.make("insertLeft(1, 1, 1)", "apply()").due("rollback()", 0).due("leftSize()", 0);
            x.due("rollback()", Subject.STATE);
        }
        Subject kept = new Subject().make("insertLeft(0, 0, 1)", "apply()").due("restore()", Subject.STATE);
        kept.make("save()").due("rollback()", 0).due("leftSize()", 0);
    }

    private static void rollbackAnswers() {
        Subject.about("rollback returns the number of rows of the latest change.");
        Subject x = new Subject().make("insertLeft(0, 0, 1)", "insertRight(0, 1)", "apply()", "insertRight(0, 2)",
                "insertRight(0, 3)", "deleteRight(0, 1)", "apply()", "insertLeft(1, 0, 1)", "apply()");
        x.due("rollback()", 0).due("changeCount()", 0).due("rollback()", 3).due("changeCount()", 3);
        Subject.same("the change", x.changeRows(), "0,0,1*1 0,0,2*-1 0,0,3*-1");
        x.due("rollback()", 1).due("changeCount()", 1);
        Subject.same("the change", x.changeRows(), "0,0,1*-1");
        Subject y = new Subject().make("insertLeft(0, 0, 1)", "insertLeft(0, 0, 2)", "insertRight(0, 1)", "apply()");
        y.filter("v=2").due("rollback()", 1);
        Subject.same("the change under a filter", y.changeRows(), "0,0,2*-1");
    }

    private static void rollbackOfNothing() {
        Subject.about("rollback throws IllegalStateException if there is no such call");
        Subject x = new Subject().due("rollback()", Subject.STATE).make("insertLeft(0, 0, 1)", "insertRight(0, 1)");
        x.due("rollback()", Subject.STATE).due("batchSize()", 2).due("apply()", 1).due("rollback()", 1);
        x.make("insertLeft(5, 5, 5)").due("rollback()", Subject.STATE).due("batchSize()", 1).due("changeCount()", 1);
        x.due("rollback()", Subject.STATE).due("deleteLeft(5, 5, 5)", 2);
    }

    private static void leftCount() {
        Subject.about("leftCount throws IllegalArgumentException if a number is out of range");
        Subject x = new Subject().make("insertLeft(0, 0, -99)", "insertLeft(9, 5, 99)", "insertLeft(9, 5, 99)", "apply()");
        x.range(Subject.ARGUMENT, 0, 0, 9, "leftCount", 0, 0, 0);
        x.range(Subject.ARGUMENT, 1, 0, 5, "leftCount", 0, 0, 0);
        x.range(Subject.ARGUMENT, 2, -99, 99, "leftCount", 0, 0, 0);
        x.due("leftCount(9, 6, -100)", Subject.ARGUMENT).due("leftCount(10, -1, 99)", Subject.ARGUMENT);
        x.due("leftCount(0, 0, -99)", 1).due("leftCount(9, 5, 99)", 2).due("leftCount(0, 0, -98)", 0);
        x.due("leftCount(9, 5, 98)", 0).due("leftCount(9, 4, 99)", 0).due("leftCount(8, 5, 99)", 0);
    }

    private static void rightCount() {
        Subject.about("rightCount throws IllegalArgumentException if a number is out of range");
        Subject x = new Subject().make("insertRight(0, -9)", "insertRight(9, 9)", "insertRight(9, 9)", "apply()");
        x.range(Subject.ARGUMENT, 0, 0, 9, "rightCount", 0, 0);
        x.range(Subject.ARGUMENT, 1, -9, 9, "rightCount", 0, 0);
        x.due("rightCount(10, -10)", Subject.ARGUMENT).due("rightCount(-1, 10)", Subject.ARGUMENT);
        x.due("rightCount(0, -9)", 1).due("rightCount(9, 9)", 2).due("rightCount(0, -8)", 0);
        x.due("rightCount(9, 8)", 0).due("rightCount(8, 9)", 0);
    }

    private static void sizes() {
        Subject.about("leftSize and rightSize return 0 to 60.");
        Subject x = new Subject().due("leftSize()", 0).due("rightSize()", 0);
        for (int i = 1; i <= 60; i++) {
            x.make(Subject.call("insertLeft", i % 10, i % 6, i), Subject.call("insertRight", i % 10, i % 9), "apply()");
            x.due("leftSize()", i).due("rightSize()", i);
        }
        x.due("insertLeft(0, 0, 0)", Subject.STATE).due("insertRight(0, 0)", Subject.STATE).make("apply()");
        x.due("leftSize()", 60).due("rightSize()", 60);
        for (int i = 60; i >= 30; i--) {
            x.make(Subject.call("deleteLeft", i % 10, i % 6, i), "apply()").due("leftSize()", i - 1);
        }
        x.due("rightSize()", 60);
    }
}
