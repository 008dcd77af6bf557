/**
 * The chapters "What it is" and "Description", sentence by sentence where one names an edge; the
 * sentences about the filter text are in FilterEdgesTest, those about refused calls in
 * RefusedCallsTest, those about the views in ViewEdgesTest.
 */
public final class DescriptionEdgesTest {
    private static final int[] VALUES = {-99, -98, -1, 0, 1, 98, 99};
    private static final int[] FACTORS = {-9, -8, -1, 0, 1, 8, 9};

    public static void main(String[] args) {
        allOf512Calls();
        changesUpToTheLastCall();
        textsUpToTheLastCall();
        restoresUpToTheLastCall();
        orderOfExceptionsInBatch();
        orderOfExceptionsInGroups();
        orderOfExceptionsInWatch();
        orderOfExceptionsInText();
        rowsOfTheLeftTable();
        rowsOfTheRightTable();
        sameRowSeveralTimes();
        atMost60Rows();
        atMost60RowsWithDeletions();
        atMost60DifferentRows();
        tablesAreEmptyAtFirst();
        atMost40Changes();
        batchHasRoomAgain();
        changesWaitForApply();
        plannedTables();
        othersDescribeTheTables();
        filterHoldsAtFirst();
        pairsOfEqualKeys();
        emptyApplyIsACall();
        emptyApplyTakesAPlace();
        filterStaysWhenUndone();
        olderCallsAreGone();
        textAndFaultStayWhenRestored();
        Subject.finish();
    }

    private static void allOf512Calls() {
        Subject.about("An object is used for at most 512 calls after it has been made");
        Subject x = new Subject().make("insertLeft(0, 0, 1)", "insertRight(0, 1)");
        x.times(507, "batchSize()");
        Subject.same("calls so far", x.calls(), 509);
        x.due("batchSize()", 2).due("apply()", 1).due("joinSize()", 1);
        Subject.same("calls in all", x.calls(), 512);
    }

    private static void changesUpToTheLastCall() {
        Subject.about("An object is used for at most 512 calls: each changes a table");
        Subject x = new Subject();
        for (int i = 0; i < 127; i++) {
            x.due("insertLeft(9, 5, -99)", 1).due("apply()", 0);
            x.due("deleteLeft(9, 5, -99)", 1).due("apply()", 0);
        }
        x.due("leftSize()", 0).due("rollback()", 0).due("leftCount(9, 5, -99)", 1).due("danglingCount()", 1);
        Subject.same("calls in all", x.calls(), 512);
    }

    private static void textsUpToTheLastCall() {
        Subject.about("An object is used for at most 512 calls: each writes or reads a text");
        Subject x = new Subject();
        for (int i = 0; i < 102; i++) {
            x.filter("k=" + i % 10).due("accepts(1, 0, 0, 0)", i % 10 == 1);
        }
        x.due("faultPosition()", -1).due("setFilter()", Subject.ARGUMENT);
        Subject.same("calls in all", x.calls(), 512);
    }

    private static void restoresUpToTheLastCall() {
        Subject.about("An object is used for at most 512 calls: saved and restored all the time");
        Subject x = new Subject();
        for (int i = 0; i < 102; i++) {
            x.make("watch(0, 0)", "save()").due("clearWatches()", i % 6 + 1).make("restore()");
            x.due(i % 6 == 5 ? "clearWatches()" : "batchSize()", i % 6 == 5 ? 6 : 0);
        }
        x.due("isRaised(0)", Subject.INDEX).due("rollback()", Subject.STATE);
        Subject.same("calls in all", x.calls(), 512);
    }

    /** A batch of 40 changes that plans 60 rows of the left table. */
    private static Subject fullLeft() {
        return new Subject().times(40, "insertLeft(1, 1, 1)").make("apply()")
                .times(20, "insertLeft(1, 1, 1)").times(20, "insertRight(1, 1)");
    }

    private static void orderOfExceptionsInBatch() {
        Subject.about("If a method can throw several exceptions, they are checked in the order in which they "
                + "are listed: the batch");
        fullLeft().due("insertLeft(10, 0, 0)", Subject.ARGUMENT).due("insertLeft(0, -1, 0)", Subject.ARGUMENT)
                .due("insertLeft(0, 0, 100)", Subject.ARGUMENT).due("insertLeft(0, 0, 0)", Subject.STATE)
                .due("deleteLeft(10, 0, 0)", Subject.ARGUMENT).due("deleteLeft(0, 6, 0)", Subject.ARGUMENT)
                .due("deleteLeft(0, 0, -100)", Subject.ARGUMENT).due("deleteLeft(0, 0, 0)", Subject.STATE)
                .due("deleteLeft(1, 1, 1)", Subject.STATE)
                .due("insertRight(-1, 0)", Subject.ARGUMENT).due("insertRight(0, 10)", Subject.ARGUMENT)
                .due("insertRight(0, 0)", Subject.STATE)
                .due("deleteRight(10, 0)", Subject.ARGUMENT).due("deleteRight(0, -10)", Subject.ARGUMENT)
                .due("deleteRight(0, 0)", Subject.STATE).due("deleteRight(1, 1)", Subject.STATE);
        Subject almost = new Subject().times(39, "insertLeft(1, 1, 1)");
        almost.due("deleteLeft(10, 0, 0)", Subject.ARGUMENT).due("deleteLeft(0, 0, 0)", Subject.ELEMENT)
                .due("deleteRight(0, 10)", Subject.ARGUMENT).due("deleteRight(0, 0)", Subject.ELEMENT)
                .due("deleteLeft(1, 1, 1)", 40).due("deleteLeft(0, 0, 0)", Subject.STATE);
        Subject fullTable = new Subject().times(40, "insertRight(1, 1)").make("apply()")
                .times(20, "insertRight(1, 1)");
        fullTable.due("insertRight(1, 10)", Subject.ARGUMENT).due("insertRight(1, 9)", Subject.STATE)
                .due("insertLeft(1, 1, 1)", 21);
    }

    private static void orderOfExceptionsInGroups() {
        Subject.about("If a method can throw several exceptions, they are checked in the order in which they "
                + "are listed: the groups");
        Subject x = new Subject();
        for (String name : new String[] {"groupMinimum", "groupMaximum", "groupAverage"}) {
            x.due(name + "(-1)", Subject.INDEX).due(name + "(0)", Subject.ELEMENT);
            x.due(name + "(5)", Subject.ELEMENT).due(name + "(6)", Subject.INDEX);
        }
        x.due("groupElement(-1, -1)", Subject.INDEX).due("groupElement(6, 0)", Subject.INDEX);
        x.due("groupElement(0, -1)", Subject.ELEMENT).due("groupElement(5, 0)", Subject.ELEMENT);
    }

    private static void orderOfExceptionsInWatch() {
        Subject.about("If a method can throw several exceptions, they are checked in the order in which they "
                + "are listed: watch");
        Subject x = new Subject().times(6, "watch(0, 0)");
        x.due("watch(-1, 0)", Subject.INDEX).due("watch(6, 0)", Subject.INDEX);
        x.due("watch(0, 0)", Subject.STATE).due("watch(5, 0)", Subject.STATE);
    }

    private static void orderOfExceptionsInText() {
        Subject.about("If a method can throw several exceptions, they are checked in the order in which they "
                + "are listed: appendCharacter");
        Subject x = new Subject().times(40, "appendCharacter(33)");
        x.due("appendCharacter(32)", Subject.ARGUMENT).due("appendCharacter(127)", Subject.ARGUMENT);
        x.due("appendCharacter(33)", Subject.STATE).due("appendCharacter(126)", Subject.STATE);
    }

    private static void rowsOfTheLeftTable() {
        Subject.about("The left table has rows with a key from 0 to 9, a group from 0 to 5, and a value from "
                + "-99 to 99.");
        Subject x = new Subject();
        int changes = 0;
        for (int key : new int[] {0, 1, 8, 9}) {
            for (int group : new int[] {0, 5}) {
                for (int value : new int[] {-99, 99}) {
                    changes++;
                    x.due(Subject.call("insertLeft", key, group, value), changes);
                }
            }
        }
        x.make("apply()").due("leftSize()", 16);
        for (int key : new int[] {0, 1, 8, 9}) {
            for (int group : new int[] {0, 1, 4, 5}) {
                for (int value : new int[] {-99, -98, 98, 99}) {
                    boolean isThere = (group == 0 || group == 5) && (value == -99 || value == 99);
                    x.due(Subject.call("leftCount", key, group, value), isThere ? 1 : 0);
                }
            }
        }
    }

    private static void rowsOfTheRightTable() {
        Subject.about("The right table has rows with a key from 0 to 9 and a factor from -9 to 9.");
        Subject x = new Subject();
        int changes = 0;
        for (int key = 0; key <= 9; key++) {
            for (int factor : new int[] {-9, 9}) {
                changes++;
                x.due(Subject.call("insertRight", key, factor), changes);
            }
        }
        x.make("apply()").due("rightSize()", 20);
        for (int key = 0; key <= 9; key++) {
            for (int factor = -9; factor <= 9; factor++) {
                x.due(Subject.call("rightCount", key, factor), factor == -9 || factor == 9 ? 1 : 0);
            }
        }
    }

    private static void sameRowSeveralTimes() {
        Subject.about("A table may contain the same row several times; each of these occurrences counts as a row.");
        Subject x = new Subject().times(40, "insertLeft(4, 2, -7)").make("apply()")
                .times(20, "insertLeft(4, 2, -7)").make("apply()");
        x.due("leftSize()", 60).due("leftCount(4, 2, -7)", 60).due("danglingCount()", 60);
        x.make("insertRight(4, 3)").due("apply()", 1).due("joinSize()", 60).due("joinDistinct()", 1);
        x.make("deleteLeft(4, 2, -7)", "apply()").due("leftSize()", 59).due("leftCount(4, 2, -7)", 59);
        x.due("joinCount(4, 2, -21)", 59).due("groupSize(2)", 59).due("groupSum(2)", 59 * -21);
        Subject y = new Subject().times(40, "insertRight(4, 0)").make("apply()")
                .times(20, "insertRight(4, 0)").make("apply()");
        y.due("rightSize()", 60).due("rightCount(4, 0)", 60);
        y.make("deleteRight(4, 0)", "apply()").due("rightSize()", 59).due("rightCount(4, 0)", 59);
    }

    private static void atMost60Rows() {
        Subject.about("A table has at most 60 rows.");
        Subject x = new Subject().times(40, "insertLeft(0, 0, 0)").make("apply()")
                .times(18, "insertLeft(0, 0, 1)").due("batchSize()", 18);
        x.due("insertLeft(9, 5, 99)", 19).due("insertLeft(9, 5, 98)", 20).due("insertLeft(9, 5, 97)", Subject.STATE);
        x.make("apply()").due("leftSize()", 60).due("insertLeft(0, 0, 0)", Subject.STATE);
        x.due("insertRight(0, 0)", 1).due("batchSize()", 1);
        Subject y = new Subject().times(40, "insertRight(0, 0)").make("apply()")
                .times(18, "insertRight(0, 1)").due("batchSize()", 18);
        y.due("insertRight(9, 9)", 19).due("insertRight(9, 8)", 20).due("insertRight(9, 7)", Subject.STATE);
        y.make("apply()").due("rightSize()", 60).due("insertRight(0, 0)", Subject.STATE);
        y.due("insertLeft(0, 0, 0)", 1).due("batchSize()", 1);
    }

    private static void atMost60RowsWithDeletions() {
        Subject.about("A table has at most 60 rows: as planned, not as it is");
        Subject x = new Subject().times(40, "insertLeft(0, 0, 0)").make("apply()")
                .times(20, "insertLeft(0, 0, 0)").make("apply()");
        x.due("insertLeft(1, 1, 1)", Subject.STATE).due("deleteLeft(0, 0, 0)", 1);
        x.due("insertLeft(1, 1, 1)", 2).due("insertLeft(1, 1, 1)", Subject.STATE);
        x.due("deleteLeft(1, 1, 1)", 3).due("insertLeft(2, 2, 2)", 4).due("insertLeft(2, 2, 2)", Subject.STATE);
        x.make("apply()").due("leftSize()", 60).due("leftCount(2, 2, 2)", 1).due("leftCount(0, 0, 0)", 59);
        x.due("insertLeft(0, 0, 0)", Subject.STATE).make("deleteLeft(0, 0, 0)", "discard()");
        x.due("insertLeft(0, 0, 0)", Subject.STATE).make("rollback()", "rollback()");
        x.due("leftSize()", 40).times(20, "insertLeft(0, 0, 0)").due("insertLeft(0, 0, 0)", Subject.STATE);
        Subject y = new Subject().times(40, "insertRight(0, 0)").make("apply()")
                .times(20, "insertRight(0, 0)").make("apply()");
        y.due("insertRight(1, 1)", Subject.STATE).due("deleteRight(0, 0)", 1);
        y.due("insertRight(1, 1)", 2).due("insertRight(1, 1)", Subject.STATE);
        y.make("apply()").due("rightSize()", 60).due("insertRight(1, 1)", Subject.STATE);
        y.make("save()", "deleteRight(0, 0)", "apply()").due("insertRight(1, 1)", 1).make("restore()");
        y.due("insertRight(1, 1)", Subject.STATE);
    }

    private static void atMost60DifferentRows() {
        Subject.about("A table has at most 60 rows: 60 different ones, of which each can go");
        for (int gone : new int[] {0, 1, 30, 58, 59}) {
            Subject x = new Subject();
            for (int i = 0; i < 60; i++) {
                x.make(Subject.call("insertLeft", i / 6, i % 6, i - 30), Subject.call("insertRight", i / 6, i % 6 - 3));
                if (i % 20 == 19) {
                    x.make("apply()");
                }
            }
            x.due("leftSize()", 60).due("rightSize()", 60);
            x.due(Subject.call("deleteLeft", gone / 6, gone % 6, gone - 30), 1);
            x.due(Subject.call("deleteLeft", gone / 6, gone % 6, gone - 30), Subject.ELEMENT);
            x.due("insertLeft(4, 4, 99)", 2).due("insertLeft(4, 4, 98)", Subject.STATE);
            x.due(Subject.call("deleteRight", gone / 6, gone % 6 - 3), 3).due("insertRight(4, 9)", 4);
            x.due("insertRight(4, 8)", Subject.STATE).make("apply()").due("leftSize()", 60).due("rightSize()", 60);
            for (int i = 0; i < 60; i++) {
                x.due(Subject.call("leftCount", i / 6, i % 6, i - 30), i == gone ? 0 : 1);
                x.due(Subject.call("rightCount", i / 6, i % 6 - 3), i == gone ? 0 : 1);
            }
            x.due("leftCount(4, 4, 99)", 1).due("rightCount(4, 9)", 1);
        }
    }

    private static void tablesAreEmptyAtFirst() {
        Subject.about("Both tables are empty at first.");
        Subject x = new Subject().due("leftSize()", 0).due("rightSize()", 0);
        for (int key = 0; key <= 9; key++) {
            for (int group = 0; group <= 5; group++) {
                x.due(Subject.call("leftCount", key, group, 0), 0);
            }
            for (int factor : FACTORS) {
                x.due(Subject.call("rightCount", key, factor), 0);
            }
        }
        x.due("leftCount(0, 0, -99)", 0).due("leftCount(9, 5, 99)", 0);
        x.due("deleteLeft(0, 0, 0)", Subject.ELEMENT).due("deleteRight(0, 0)", Subject.ELEMENT);
    }

    private static void atMost40Changes() {
        Subject.about("Insertions and deletions are collected in a batch, which has at most 40 changes");
        Subject x = new Subject().times(10, "insertLeft(0, 0, 0)").times(10, "insertRight(0, 0)")
                .times(9, "deleteLeft(0, 0, 0)").times(9, "deleteRight(0, 0)");
        x.due("batchSize()", 38).due("insertLeft(1, 1, 1)", 39).due("deleteRight(0, 0)", 40);
        x.due("insertLeft(0, 0, 0)", Subject.STATE).due("insertRight(0, 0)", Subject.STATE);
        x.due("deleteLeft(1, 1, 1)", Subject.STATE).due("deleteRight(0, 0)", Subject.STATE);
        x.due("batchSize()", 40).make("apply()").due("leftSize()", 2).due("rightSize()", 0);
        String[] last = {"insertLeft(2, 2, 2)", "insertRight(2, 2)", "deleteLeft(1, 1, 1)", "deleteRight(1, 1)"};
        for (String call : last) {
            Subject y = new Subject().make("insertLeft(1, 1, 1)", "insertRight(1, 1)", "apply()");
            for (int i = 0; i < 19; i++) {
                y.make("insertLeft(0, 0, 0)", "deleteLeft(0, 0, 0)");
            }
            y.make("insertRight(0, 0)").due("batchSize()", 39).due(call, 40).due(call, Subject.STATE);
            y.due("batchSize()", 40).due("discard()", 40).due(call, 1);
        }
    }

    private static void batchHasRoomAgain() {
        Subject.about("Insertions and deletions are collected in a batch, which has at most 40 changes: each batch");
        for (String call : new String[] {"apply()", "discard()", "rollback()", "restore()"}) {
            Subject x = new Subject().make("save()", "apply()").times(40, "insertLeft(0, 0, 0)");
            x.due("insertRight(0, 0)", Subject.STATE).make(call).due("batchSize()", 0);
            for (int i = 1; i <= 20; i++) {
                x.due("insertLeft(0, 0, 0)", 2 * i - 1).due("deleteLeft(0, 0, 0)", 2 * i);
            }
            x.due("insertLeft(0, 0, 0)", Subject.STATE).due("batchSize()", 40);
        }
    }

    private static void changesWaitForApply() {
        Subject.about("Insertions and deletions ... take effect when the batch is applied.");
        Subject x = new Subject().make("insertLeft(3, 3, 3)", "insertRight(3, 3)");
        x.due("leftSize()", 0).due("rightSize()", 0).due("joinSize()", 0).due("apply()", 1);
        x.due("leftSize()", 1).due("rightSize()", 1).due("joinSize()", 1);
        x.make("deleteLeft(3, 3, 3)", "deleteRight(3, 3)");
        x.due("leftSize()", 1).due("rightSize()", 1).due("joinSize()", 1).due("apply()", 1);
        x.due("leftSize()", 0).due("rightSize()", 0).due("joinSize()", 0).due("apply()", 0);
        x.due("leftSize()", 0).due("rightSize()", 0);
    }

    private static void plannedTables() {
        Subject.about("The planned tables are what the tables would be if the batch was applied.");
        Subject x = new Subject().make("insertLeft(1, 1, 1)", "insertRight(1, 1)", "apply()");
        x.due("deleteLeft(1, 1, 1)", 1).due("deleteLeft(1, 1, 1)", Subject.ELEMENT);
        x.due("insertLeft(2, 2, 2)", 2).due("deleteLeft(2, 2, 2)", 3).due("deleteLeft(2, 2, 2)", Subject.ELEMENT);
        x.due("deleteRight(1, 1)", 4).due("deleteRight(1, 1)", Subject.ELEMENT);
        x.due("insertRight(2, 2)", 5).due("deleteRight(2, 2)", 6).due("deleteRight(2, 2)", Subject.ELEMENT);
        x.due("leftCount(1, 1, 1)", 1).due("rightCount(1, 1)", 1);
        x.due("insertLeft(1, 1, 1)", 7).due("insertRight(1, 1)", 8).due("apply()", 0);
        x.due("leftCount(1, 1, 1)", 1).due("rightCount(1, 1)", 1).due("leftSize()", 1).due("rightSize()", 1);
    }

    private static void othersDescribeTheTables() {
        Subject.about("All other methods describe the tables without the batch, unless stated otherwise.");
        Subject x = new Subject().make("insertLeft(1, 1, 4)", "insertLeft(2, 2, 5)", "insertRight(1, 3)",
                "watch(1, 12)", "watch(1, 13)", "watch(2, 0)", "apply()");
        String before = Portrait.views(x);
        x.make("insertLeft(1, 1, 9)", "insertRight(2, 7)", "deleteRight(1, 3)", "deleteLeft(1, 1, 4)");
        Subject.same("what is told with a batch", Portrait.views(x), "4" + before.substring(1));
        x.due("leftCount(1, 1, 4)", 1).due("leftCount(1, 1, 9)", 0).due("rightCount(1, 3)", 1);
        x.due("rightCount(2, 7)", 0).due("joinCount(1, 1, 12)", 1).due("joinCount(2, 2, 35)", 0);
        x.due("groupMinimum(1)", 12).due("groupMaximum(2)", Subject.ELEMENT).due("groupDistinct(1)", 1);
        x.due("groupElement(1, 0)", 12).due("groupAverage(1)", 12.0).due("qualifiedGroups(12)", 2);
        x.due("rankedGroup(0)", 1).due("rankedGroup(1)", Subject.INDEX).due("changeCount()", 1);
        x.filter("k>0").due("joinSize()", 1).due("batchSize()", 4);
    }

    private static void filterHoldsAtFirst() {
        Subject.about("At first it holds for all such pairs.");
        for (int key = 0; key <= 9; key++) {
            Subject x = new Subject();
            for (int group = 0; group <= 5; group++) {
                for (int value : VALUES) {
                    for (int factor : FACTORS) {
                        x.due(Subject.call("accepts", key, group, value, factor), true);
                    }
                }
            }
        }
    }

    private static void pairsOfEqualKeys() {
        Subject.about("A pair matches if both keys are equal and the filter holds.");
        for (int key = 0; key <= 9; key++) {
            Subject x = new Subject().make(Subject.call("insertLeft", key, 1, 6));
            for (int other = 0; other <= 9; other++) {
                x.make(Subject.call("insertRight", other, other == key ? 2 : other - 4));
            }
            x.due("apply()", 1);
            Subject.same("the join for key " + key, x.joinRows(), key + ",1,12*1");
            x.make("insertRight(" + key + ", 9)", "insertRight(" + key + ", -9)").due("apply()", 2);
            x.filter("k=" + key + "&!f=2");
            Subject.same("the join under a filter", x.joinRows(), key + ",1,-54*1 " + key + ",1,54*1");
            x.filter("!k=" + key).due("joinSize()", 0).due("danglingCount()", 1);
            x.make(Subject.call("deleteRight", key, 2), Subject.call("deleteRight", key, 9),
                    Subject.call("deleteRight", key, -9), "clearFilter()").due("joinSize()", 3);
            x.due("apply()", 3).due("joinSize()", 0).due("danglingCount()", 1).due("rightSize()", 9);
        }
    }

    private static void emptyApplyIsACall() {
        Subject.about("A call of apply with an empty batch is a call like others: the latest change is empty then, "
                + "and it can be undone.");
        Subject x = new Subject().due("apply()", 0).due("changeCount()", 0).due("rollback()", 0);
        x.due("rollback()", Subject.STATE);
        x.make("insertLeft(0, 0, 1)", "insertRight(0, 1)").due("apply()", 1).due("changeCount()", 1);
        x.due("apply()", 0).due("changeCount()", 0).due("changeRow(0, 0)", Subject.INDEX).due("joinSize()", 1);
        x.due("rollback()", 0).due("changeCount()", 0).due("joinSize()", 1);
        x.due("rollback()", 1).due("changeCount()", 1).due("joinSize()", 0).due("rollback()", Subject.STATE);
        x.make("insertLeft(0, 0, 1)").due("discard()", 1).due("apply()", 0).due("rollback()", 0);
        x.due("rollback()", Subject.STATE);
    }

    private static void emptyApplyTakesAPlace() {
        Subject.about("A call of apply with an empty batch is a call like others: among the 4 latest, too");
        for (int empty = 0; empty <= 5; empty++) {
            Subject x = new Subject().make("insertLeft(0, 0, 1)", "apply()").times(empty, "apply()");
            for (int i = 0; i < Math.min(empty, 4); i++) {
                x.due("rollback()", 0).due("leftSize()", 1);
            }
            x.due("rollback()", empty < 4 ? 0 : Subject.STATE).due("leftSize()", empty < 4 ? 0 : 1);
            x.due("rollback()", Subject.STATE);
        }
    }

    private static void filterStaysWhenUndone() {
        Subject.about("The filter stays when a call of apply is undone.");
        Subject x = new Subject().make("insertLeft(0, 0, 1)", "insertLeft(0, 0, 2)", "insertRight(0, 1)", "apply()");
        x.make("insertLeft(0, 0, 3)").due("apply()", 1).filter("v>1").due("joinSize()", 2);
        x.due("rollback()", 1).due("joinSize()", 1).due("accepts(0, 0, 1, 1)", false);
        x.due("accepts(0, 0, 2, 1)", true).make("clearFilter()").due("joinSize()", 2);
        x.filter("v<2").due("apply()", 0).make("clearFilter()").due("rollback()", 0);
        x.due("accepts(0, 0, 2, 1)", true).due("joinSize()", 2).due("rollback()", 2).due("joinSize()", 0);
    }

    private static void olderCallsAreGone() {
        Subject.about("Calls of apply older than the 4 latest at some time are gone, whatever is undone later.");
        for (int undone = 0; undone <= 4; undone++) {
            for (int again = 0; again <= 5; again++) {
                Subject x = new Subject();
                for (int i = 0; i < 5; i++) {
                    x.make("insertLeft(0, 0, 0)", "apply()");
                }
                x.times(undone, "rollback()").due("leftSize()", 5 - undone);
                for (int i = 0; i < again; i++) {
                    x.make("insertLeft(1, 1, 1)", "apply()");
                }
                int left = Math.min(4, 4 - undone + again);
                int size = 5 - undone + again;
                for (int i = 1; i <= left; i++) {
                    x.due("rollback()", 0).due("leftSize()", size - i);
                }
                x.due("rollback()", Subject.STATE).due("leftSize()", size - left);
                x.due("leftCount(0, 0, 0)", Math.min(5 - undone, size - left));
            }
        }
    }

    private static void textAndFaultStayWhenRestored() {
        Subject.about("Text and fault position stay when tables are restored.");
        Subject x = new Subject().make("save()").wrongFilter("k<1)").type("g=");
        x.make("restore()").due("faultPosition()", 3).due("appendCharacter(50)", 3).due("setFilter()", 0);
        x.due("accepts(0, 2, 0, 0)", true).due("accepts(0, 1, 0, 0)", false);
        x.make("save()").wrongFilter("").due("faultPosition()", 0).make("restore()").due("faultPosition()", 0);
        x.filter("k=0").due("faultPosition()", -1).make("restore()").due("faultPosition()", -1);
        x.times(40, "appendCharacter(33)").make("restore()").due("appendCharacter(33)", Subject.STATE);
    }
}
