/**
 * All that calls tell of a state: what is answered now, and, each time by an object made anew, what
 * would be answered after the calls that bring the batch, the calls of apply, the saved state and the
 * text to light. Two objects with the same portrait are in the same state as far as can be told.
 */
final class Portrait {
    private Portrait() {
    }

    static String of(Subject.Maker maker) {
        return withoutText(maker) + "\nfault " + maker.make().answer("faultPosition()") + text(maker);
    }

    /** What stays also where a call empties the text and sets the fault position. */
    static String withoutText(Subject.Maker maker) {
        return "now " + views(maker.make())
                + "\nasked twice " + twice(maker.make())
                + "\napplied " + applied(maker.make())
                + "\ndiscarded " + discarded(maker.make())
                + "\nrolled back " + rolledBack(maker.make())
                + "\nrestored " + restored(maker.make())
                + "\nwithout filter " + afterClearFilter(maker.make())
                + "\nrows planned " + planned(maker.make());
    }

    /** What the observers tell, but for the text and the fault position. */
    static String views(Subject x) {
        StringBuilder told = new StringBuilder();
        String[] calls = {"batchSize()", "leftSize()", "rightSize()", "joinSize()", "changedWatches()"};
        for (String call : calls) {
            told.append(x.answer(call)).append(' ');
        }
        told.append("| ").append(x.joinRows());
        told.append(" | ").append(x.danglingRows());
        told.append(" | ").append(x.changeRows()).append(" |");
        for (int i = 0; i < 6; i++) {
            told.append(' ').append(x.answer(Subject.call("groupSize", i)));
            told.append(' ').append(x.answer(Subject.call("groupSum", i)));
            told.append(' ').append(x.answer(Subject.call("isRaised", i)));
        }
        for (int key = 0; key <= 9; key += 3) {
            told.append(' ').append(x.answer(Subject.call("accepts", key, key / 2, key - 3, 2)));
        }
        return told.toString();
    }

    private static String twice(Subject x) {
        String first = groups(x);
        return first + (groups(x).equals(first) ? " same" : " other");
    }

    private static String groups(Subject x) {
        StringBuilder told = new StringBuilder();
        for (int group = 0; group < 6; group++) {
            for (String name : new String[] {"groupMinimum", "groupMaximum", "groupDistinct", "groupAverage"}) {
                told.append(x.answer(Subject.call(name, group))).append(' ');
            }
            told.append(x.answer(Subject.call("groupElement", group, 1))).append(' ');
            told.append(x.answer(Subject.call("rankedGroup", group))).append(' ');
        }
        return told + x.answer("qualifiedGroups(0)");
    }

    private static String applied(Subject x) {
        return x.answer("apply()") + " " + views(x);
    }

    private static String discarded(Subject x) {
        return x.answer("discard()") + " " + x.answer("apply()") + " " + x.answer("leftSize()") + " "
                + x.answer("rightSize()") + " " + x.joinRows();
    }

    private static String rolledBack(Subject x) {
        StringBuilder told = new StringBuilder();
        for (int i = 0; i < 5; i++) {
            told.append(x.answer("rollback()")).append(' ').append(x.answer("leftSize()")).append(' ')
                    .append(x.answer("rightSize()")).append(' ').append(x.answer("joinSize()")).append(' ')
                    .append(x.answer("batchSize()")).append(' ').append(x.answer("groupSum(1)")).append(' ');
        }
        return told.toString();
    }

    private static String restored(Subject x) {
        return x.answer("restore()") + " " + views(x) + " " + x.answer("clearWatches()");
    }

    private static String afterClearFilter(Subject x) {
        return x.answer("clearFilter()") + " " + x.joinRows() + " " + x.danglingRows();
    }

    /** How many changes have room, and which rows of a sample are there to be deleted. */
    private static String planned(Subject x) {
        StringBuilder told = new StringBuilder();
        for (int i = 0; i < 6; i++) {
            told.append(x.answer(Subject.call("deleteLeft", i, i, i))).append(' ');
            told.append(x.answer(Subject.call("deleteRight", i, 1))).append(' ');
        }
        for (int i = 0; i < 41; i++) {
            told.append(x.answer("insertLeft(0, 0, 0)")).append(' ');
        }
        return told.toString();
    }

    /** The length of the text, what it is as a filter, and what it is with another character. */
    private static String text(Subject.Maker maker) {
        Subject asItIs = maker.make();
        Subject longer = maker.make();
        return "\ntext " + asItIs.answer("setFilter()") + " " + asItIs.answer("faultPosition()") + " "
                + longer.answer("appendCharacter(51)") + " " + longer.answer("setFilter()") + " "
                + longer.answer("faultPosition()") + " " + longer.joinRows();
    }
}
