import java.util.ArrayList;
import java.util.List;

/**
 * "A call that throws an exception leaves the state unchanged, except that faultPosition and the text are
 * treated as described": each way in which each call can be refused, in several states. The state before
 * and after the refused call is told by a portrait of it.
 */
public final class RefusedCallsTest {
    /** A state, and calls that are refused in it with what they throw. */
    private record Case(String name, Subject.Maker state, List<String> calls, List<String> thrown) {
        Case(String name, Subject.Maker state) {
            this(name, state, new ArrayList<>(), new ArrayList<>());
        }

        Case refuses(String exception, String... refused) {
            for (String call : refused) {
                calls.add(call);
                thrown.add(exception);
            }
            return this;
        }

        /** What is out of range in every state. */
        Case refusesWrongNumbers() {
            refuses(Subject.ARGUMENT, "insertLeft(-1, 0, 0)", "insertLeft(10, 0, 0)", "insertLeft(0, -1, 0)",
                    "insertLeft(0, 6, 0)", "insertLeft(0, 0, -100)", "insertLeft(0, 0, 100)");
            refuses(Subject.ARGUMENT, "deleteLeft(-1, 1, 1)", "deleteLeft(10, 1, 1)", "deleteLeft(1, -1, 1)",
                    "deleteLeft(1, 6, 1)", "deleteLeft(1, 1, -100)", "deleteLeft(1, 1, 100)");
            refuses(Subject.ARGUMENT, "insertRight(-1, 0)", "insertRight(10, 0)", "insertRight(0, -10)",
                    "insertRight(0, 10)", "deleteRight(-1, 1)", "deleteRight(10, 1)", "deleteRight(1, -10)",
                    "deleteRight(1, 10)");
            refuses(Subject.ARGUMENT, "leftCount(10, 0, 0)", "leftCount(0, 6, 0)", "leftCount(0, 0, -100)",
                    "rightCount(-1, 0)", "rightCount(0, 10)");
            refuses(Subject.ARGUMENT, "accepts(10, 0, 0, 0)", "accepts(0, -1, 0, 0)", "accepts(0, 0, 100, 0)",
                    "accepts(0, 0, 0, -10)");
            refuses(Subject.ARGUMENT, "appendCharacter(32)", "appendCharacter(127)", "appendCharacter(-1)");
            refuses(Subject.INDEX, "joinRow(-1, 0)", "joinRow(0, -1)", "joinRow(0, 4)", "joinRow(2147483647, 3)");
            refuses(Subject.INDEX, "danglingRow(-1, 0)", "danglingRow(0, 3)", "danglingRow(60, 0)");
            refuses(Subject.INDEX, "changeRow(-1, 0)", "changeRow(0, 4)", "changeRow(-2147483648, 3)");
            for (String name : new String[] {"groupSize", "groupSum", "groupMinimum", "groupMaximum", "groupDistinct",
                "groupAverage"}) {
                refuses(Subject.INDEX, name + "(-1)", name + "(6)");
            }
            refuses(Subject.INDEX, "groupElement(-1, 0)", "groupElement(6, 0)", "rankedGroup(-1)", "rankedGroup(6)");
            refuses(Subject.INDEX, "watch(-1, 0)", "watch(6, 0)", "isRaised(-1)", "isRaised(6)");
            return refuses(Subject.ELEMENT, "groupElement(0, -1)", "groupElement(5, 2147483647)");
        }
    }

    public static void main(String[] args) {
        for (Case one : cases()) {
            refusedCalls(one);
        }
        refusedTexts();
        questions();
        Subject.finish();
    }

    private static List<Case> cases() {
        List<Case> cases = new ArrayList<>();
        cases.add(new Case("a new object", Subject::new).refusesWrongNumbers()
                .refuses(Subject.ELEMENT, "deleteLeft(0, 0, 0)", "deleteRight(0, 0)", "groupMinimum(0)", "groupMaximum(5)",
                        "groupAverage(0)", "groupElement(0, 0)")
                .refuses(Subject.STATE, "rollback()", "restore()")
                .refuses(Subject.INDEX, "joinRow(0, 0)", "danglingRow(0, 0)", "changeRow(0, 0)", "rankedGroup(0)",
                        "isRaised(0)"));
        cases.add(new Case("rows, a batch and a text", RefusedCallsTest::somewhere).refusesWrongNumbers()
                .refuses(Subject.ELEMENT, "deleteLeft(1, 1, 2)", "deleteLeft(3, 3, 3)", "deleteRight(2, 2)",
                        "deleteRight(9, 1)", "groupMinimum(3)", "groupMaximum(0)", "groupAverage(5)", "groupElement(3, 0)")
                .refuses(Subject.INDEX, "joinRow(4, 0)", "danglingRow(1, 0)", "changeRow(3, 0)", "rankedGroup(2)",
                        "isRaised(3)"));
        cases.add(new Case("nothing to undo or restore", RefusedCallsTest::nothingToUndo).refusesWrongNumbers()
                .refuses(Subject.STATE, "rollback()", "restore()"));
        cases.add(new Case("nothing saved", RefusedCallsTest::nothingSaved).refusesWrongNumbers()
                .refuses(Subject.STATE, "restore()"));
        cases.add(new Case("saved, but nothing to undo", RefusedCallsTest::savedOnly).refusesWrongNumbers()
                .refuses(Subject.STATE, "rollback()"));
        cases.add(new Case("a full batch", RefusedCallsTest::fullBatch).refusesWrongNumbers()
                .refuses(Subject.STATE, "insertLeft(1, 1, 1)", "deleteLeft(1, 1, 1)", "deleteLeft(9, 5, 99)",
                        "insertRight(1, 1)", "deleteRight(1, 1)", "deleteRight(9, 9)"));
        cases.add(new Case("full tables, watches and text", RefusedCallsTest::allFull).refusesWrongNumbers()
                .refuses(Subject.STATE, "insertLeft(1, 1, 1)", "insertLeft(9, 5, 99)", "insertRight(1, 1)",
                        "insertRight(9, 9)", "watch(0, 0)", "watch(5, -1)", "appendCharacter(33)", "appendCharacter(51)",
                        "appendCharacter(126)"));
        return cases;
    }

    /** Saved one state, undone a call of another, now with a batch and half a text behind a wrong one. */
    private static Subject somewhere() {
        Subject x = new Subject().make("insertLeft(1, 1, 1)", "insertLeft(2, 2, 2)", "insertRight(1, 1)", "watch(1, 1)",
                "apply()", "save()");
        x.make("insertRight(2, 1)", "insertRight(2, -4)", "watch(2, 2)", "watch(1, 5)", "apply()");
        x.make("insertLeft(5, 5, 5)", "apply()", "rollback()").filter("k<4");
        x.make("insertLeft(1, 1, 6)", "insertLeft(2, 2, 2)", "insertLeft(3, 3, -3)", "apply()");
        x.make("deleteLeft(3, 3, -3)", "insertLeft(4, 4, 4)", "insertRight(1, 3)", "deleteRight(2, 1)");
        return x.wrongFilter("k<4&").type("k<2|g=");
    }

    private static Subject nothingToUndo() {
        Subject x = new Subject().make("insertLeft(1, 1, 1)", "insertRight(1, 1)", "watch(1, 1)", "apply()", "rollback()");
        return x.make("insertLeft(2, 2, 2)", "insertRight(2, 1)").type("k=");
    }

    private static Subject nothingSaved() {
        Subject x = new Subject().make("insertLeft(1, 1, 1)", "insertLeft(2, 2, 2)", "insertRight(1, 1)", "apply()");
        x.make("insertRight(2, 3)", "apply()").filter("k=1|v=2").make("insertLeft(2, 2, 5)", "watch(2, 6)", "watch(1, 2)");
        return x.make("insertLeft(1, 1, 4)", "apply()", "insertRight(1, 5)").type("k=1&");
    }

    private static Subject savedOnly() {
        Subject x = new Subject().make("insertLeft(1, 1, 1)", "insertRight(1, 1)", "watch(1, 1)", "apply()").filter("k=1");
        x.make("save()", "insertLeft(1, 1, 7)", "apply()", "restore()", "insertLeft(3, 3, 3)", "apply()", "rollback()");
        return x.make("watch(1, 2)", "insertRight(1, 2)", "deleteLeft(1, 1, 1)").type("!(");
    }

    private static Subject fullBatch() {
        Subject x = new Subject().make("insertLeft(1, 1, 1)", "insertRight(1, 1)", "watch(1, 1)", "apply()", "save()");
        return x.times(20, "insertLeft(1, 1, 1)").times(19, "insertRight(1, 2)").make("deleteRight(1, 1)");
    }

    /** The planned tables have 60 rows each, though there is room in the batch and one row less in the tables. */
    private static Subject allFull() {
        Subject x = new Subject().times(40, "insertLeft(1, 1, 1)").make("apply()", "save()");
        x.times(19, "insertLeft(1, 2, -1)").times(20, "insertRight(1, 2)").make("apply()");
        x.times(39, "insertRight(1, 1)").make("apply()", "insertLeft(3, 3, 3)", "insertRight(3, 1)");
        for (int i = 0; i < 6; i++) {
            x.make(Subject.call("watch", 1 + i % 2, i * 100));
        }
        return x.type("!".repeat(36) + "k=23");
    }

    private static void refusedCalls(Case one) {
        Subject.about("A call that throws an exception leaves the state unchanged: " + one.name());
        String before = Portrait.of(one.state());
        for (int i = 0; i < one.calls().size(); i++) {
            String call = one.calls().get(i);
            one.state().make().due(call, one.thrown().get(i));
            Subject.Maker after = () -> {
                Subject x = one.state().make();
                x.answer(call);
                return x;
            };
            Subject.same("the state after " + call, Portrait.of(after), before);
        }
    }

    private static void refusedTexts() {
        Subject.about("A call that throws an exception leaves the state unchanged, except that faultPosition and the text are "
                + "treated as described.");
        for (Case one : cases()) {
            String before = Portrait.withoutText(one.state());
            for (String ending : new String[] {"", ")", "&", "x"}) {
                Subject.Maker after = () -> {
                    Subject x = one.state().make();
                    for (int i = 0; i < ending.length(); i++) {
                        x.answer(Subject.call("appendCharacter", ending.charAt(i)));
                    }
                    x.answer("setFilter()");
                    return x;
                };
                Subject x = after.make();
                if (!x.answer("faultPosition()").equals("-1")) {
                    Subject.same("the state after a wrong text in " + one.name(), Portrait.withoutText(after), before);
                    x.due("setFilter()", Subject.ARGUMENT).due("faultPosition()", 0).due("appendCharacter(33)", 1);
                }
            }
        }
        // Of the texts that the states have, only the last one is right as it is.
        int last = cases().size() - 1;
        for (int i = 0; i < last; i++) {
            cases().get(i).state().make().due("setFilter()", Subject.ARGUMENT);
        }
        cases().get(last).state().make().due("setFilter()", 0);
    }

    /** Questions leave the state as it is, too. */
    private static void questions() {
        Subject.about("Nothing is promised beyond the answers and state changes described above");
        String[] questions = {"batchSize()", "leftCount(1, 1, 1)", "rightCount(1, 1)", "leftSize()", "rightSize()", "joinSize()",
            "joinDistinct()", "joinCount(1, 1, 1)", "joinRow(0, 3)", "danglingCount()", "danglingRow(0, 2)", "groupSize(1)",
            "groupSum(1)", "groupMinimum(1)", "groupMaximum(1)", "groupDistinct(1)", "groupElement(1, 0)", "groupAverage(1)",
            "qualifiedGroups(0)", "rankedGroup(0)", "changeCount()", "changeRow(0, 3)", "isRaised(0)", "changedWatches()",
            "faultPosition()", "accepts(1, 1, 1, 1)"};
        for (Case one : cases()) {
            String before = Portrait.of(one.state());
            for (String question : questions) {
                Subject.Maker after = () -> {
                    Subject x = one.state().make();
                    x.answer(question);
                    return x;
                };
                Subject.same("the state after " + question, Portrait.of(after), before);
            }
        }
    }
}
