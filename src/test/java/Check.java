/** Compares answers with what is due, and ends the program with 1 if one of them differed. */
final class Check {
    /** A call that may throw. */
    interface Call {
        Object answer();
    }

    private int checks = 0;
    private int wrong = 0;

    /** The answer of a call, or "throws." and the name of the exception that it throws. */
    static String told(Call call) {
        try {
            return String.valueOf(call.answer());
        } catch (RuntimeException e) {
            return "throws." + e.getClass().getSimpleName();
        }
    }

    void due(int promise, String name, Object want, Call call) {
        checks++;
        String got = told(call);
        if (!got.equals(String.valueOf(want))) {
            wrong++;
            System.out.println("promise " + promise + ": " + name + " answered " + got + ", due is " + want);
        }
    }

    void badArgument(int promise, String name, Call call) {
        due(promise, name, "throws.IllegalArgumentException", call);
    }

    void badState(int promise, String name, Call call) {
        due(promise, name, "throws.IllegalStateException", call);
    }

    void badIndex(int promise, String name, Call call) {
        due(promise, name, "throws.IndexOutOfBoundsException", call);
    }

    void noElement(int promise, String name, Call call) {
        due(promise, name, "throws.NoSuchElementException", call);
    }

    void finish() {
        System.out.println(checks + " checks, " + wrong + " wrong");
        if (wrong != 0) {
            System.exit(1);
        }
    }

    /** Appends a text and reads it as the filter. */
    static int filter(ViewMaintainer x, String text) {
        type(x, text);
        return x.setFilter();
    }

    static void type(ViewMaintainer x, String text) {
        for (int i = 0; i < text.length(); i++) {
            x.appendCharacter(text.charAt(i));
        }
    }

    static void insertLeft(ViewMaintainer x, int times, int key, int group, int value) {
        for (int i = 0; i < times; i++) {
            x.insertLeft(key, group, value);
        }
    }

    static void insertRight(ViewMaintainer x, int times, int key, int factor) {
        for (int i = 0; i < times; i++) {
            x.insertRight(key, factor);
        }
    }

    /** All rows of the join, "key,group,product*multiplicity" each. */
    static String joinRows(ViewMaintainer x) {
        StringBuilder rows = new StringBuilder();
        for (int i = 0; i < x.joinDistinct(); i++) {
            rows.append(i == 0 ? "" : " ").append(x.joinRow(i, 0)).append(',').append(x.joinRow(i, 1))
                    .append(',').append(x.joinRow(i, 2)).append('*').append(x.joinRow(i, 3));
        }
        return rows.toString();
    }

    /** All rows of the latest change, in the same form. */
    static String changeRows(ViewMaintainer x) {
        StringBuilder rows = new StringBuilder();
        for (int i = 0; i < x.changeCount(); i++) {
            rows.append(i == 0 ? "" : " ").append(x.changeRow(i, 0)).append(',').append(x.changeRow(i, 1))
                    .append(',').append(x.changeRow(i, 2)).append('*').append(x.changeRow(i, 3));
        }
        return rows.toString();
    }

    /** All dangling rows, "key,group,value" each. */
    static String danglingRows(ViewMaintainer x) {
        StringBuilder rows = new StringBuilder();
        for (int i = 0; i < x.danglingCount(); i++) {
            rows.append(i == 0 ? "" : " ").append(x.danglingRow(i, 0)).append(',')
                    .append(x.danglingRow(i, 1)).append(',').append(x.danglingRow(i, 2));
        }
        return rows.toString();
    }
}
