/** Promises 35 to 39: the text, the filter, and the fault position. */
public final class FilterTest {
    private static final Check check = new Check();
    private static final int LOW = Integer.MIN_VALUE;
    private static final int HIGH = Integer.MAX_VALUE;

    public static void main(String[] args) {
        appendCharacter();
        setFilter();
        setFilterThatThrows();
        conditions();
        faults();
        textsBehindOneAnother();
        clearFilter();
        accepts();
        check.finish();
    }

    private static void appendCharacter() {
        ViewMaintainer x = new ViewMaintainer();
        for (int bad : new int[] {LOW, -1, 0, 32, 127, 128, 255, 65536 + 40, HIGH}) {
            check.badArgument(35, "appendCharacter(" + bad + ")", () -> x.appendCharacter(bad));
        }
        check.due(35, "appendCharacter(33)", 1, () -> x.appendCharacter(33));
        check.due(35, "appendCharacter(126)", 2, () -> x.appendCharacter(126));
        for (int i = 3; i <= 40; i++) {
            check.due(35, "appendCharacter " + i, i, () -> x.appendCharacter('('));
        }
        check.badState(35, "41st character", () -> x.appendCharacter('('));
        check.badArgument(35, "wrong 41st character", () -> x.appendCharacter(32));
        check.badArgument(36, "setFilter() of a wrong text", () -> x.setFilter());
        check.due(35, "appendCharacter after setFilter", 1, () -> x.appendCharacter('k'));
    }

    private static ViewMaintainer sample() {
        ViewMaintainer x = new ViewMaintainer();
        x.insertLeft(0, 0, 4);
        x.insertLeft(0, 0, 4);
        x.insertLeft(0, 1, -4);
        x.insertRight(0, 2);
        x.insertRight(0, -1);
        x.insertRight(0, -1);
        x.apply();
        return x;
    }

    private static void setFilter() {
        ViewMaintainer x = sample();
        x.insertLeft(0, 0, 1);
        check.due(36, "setFilter() p<0", 5, () -> Check.filter(x, "p<0"));
        check.due(36, "joinSize()", 5, () -> x.joinSize());
        check.due(36, "joinRow", "0,0,-4*4 0,1,-8*1", () -> Check.joinRows(x));
        check.due(36, "batchSize() stays", 1, () -> x.batchSize());
        check.due(37, "faultPosition()", -1, () -> x.faultPosition());
        check.due(36, "the text is empty", 1, () -> x.appendCharacter('k'));
        Check.type(x, "=0");
        check.due(36, "setFilter() that replaces the filter", 9, () -> x.setFilter());
        check.due(36, "setFilter() that matches nothing", 0, () -> Check.filter(x, "k>0"));
        check.due(36, "danglingCount()", 3, () -> x.danglingCount());
        check.due(36, "apply() of the batch that stayed", 0, () -> x.apply());
        check.due(36, "leftSize()", 4, () -> x.leftSize());
    }

    private static void setFilterThatThrows() {
        ViewMaintainer x = sample();
        check.badArgument(36, "setFilter() of an empty text", () -> x.setFilter());
        check.due(37, "faultPosition() of an empty text", 0, () -> x.faultPosition());
        Check.filter(x, "v>0");
        x.apply();
        x.insertRight(0, 5);
        check.badArgument(36, "setFilter() of v<0&", () -> Check.filter(x, "v<0&"));
        check.due(37, "faultPosition() of v<0&", 4, () -> x.faultPosition());
        check.due(36, "the filter stays", true, () -> x.accepts(0, 0, 1, 0));
        check.due(36, "the filter stays", false, () -> x.accepts(0, 0, -1, 0));
        check.due(36, "the join stays", 6, () -> x.joinSize());
        check.due(36, "the batch stays", 1, () -> x.batchSize());
        check.due(36, "the text is empty", 1, () -> x.appendCharacter('g'));
        check.due(37, "faultPosition() stays while a text is written", 4, () -> x.faultPosition());
        Check.type(x, "=1");
        check.due(36, "setFilter() of the text behind it", 3, () -> x.setFilter());
        check.due(37, "faultPosition() of a right text", -1, () -> x.faultPosition());
        check.badArgument(36, "setFilter() of k=x", () -> Check.filter(x, "k=x"));
        x.save();
        x.clearFilter();
        x.restore();
        check.due(37, "faultPosition() stays when tables are restored", 2, () -> x.faultPosition());
    }

    /** Whether a filter holds for a pair. */
    private static boolean holds(String text, int key, int group, int value, int factor) {
        ViewMaintainer x = new ViewMaintainer();
        Check.filter(x, text);
        return x.accepts(key, group, value, factor);
    }

    private static void conditionDue(String text, boolean want, int key, int group, int value, int factor) {
        check.due(36, text + " for " + key + ", " + group + ", " + value + ", " + factor, want,
                () -> holds(text, key, group, value, factor));
    }

    private static void conditions() {
        String[] names = {"k", "g", "v", "f", "p"};
        int[] numbers = {3, 2, -7, 5, -35};
        for (int i = 0; i < names.length; i++) {
            for (int d = -1; d <= 1; d++) {
                conditionDue(names[i] + "<" + (numbers[i] + d), d > 0, 3, 2, -7, 5);
                conditionDue(names[i] + "=" + (numbers[i] + d), d == 0, 3, 2, -7, 5);
                conditionDue(names[i] + ">" + (numbers[i] + d), d < 0, 3, 2, -7, 5);
            }
        }
        conditionDue("k=007", true, 7, 0, 0, 0);
        conditionDue("k=-0", true, 0, 0, 0, 0);
        conditionDue("v=-07", true, 0, 0, -7, 0);
        conditionDue("p=891", true, 0, 0, 99, 9);
        conditionDue("p<-890", true, 0, 0, 99, -9);
        conditionDue("v<999", true, 0, 0, 99, 0);
        conditionDue("v>-999", true, 0, 0, -99, 0);
        // "&" binds tighter than "|", and "!" tighter than "&".
        conditionDue("k=1|k=0&g=1", true, 1, 0, 0, 0);
        conditionDue("g=1&k=0|k=1", true, 1, 0, 0, 0);
        conditionDue("(k=1|k=0)&g=1", false, 1, 0, 0, 0);
        conditionDue("g=1&(k=0|k=1)", false, 1, 0, 0, 0);
        conditionDue("!k=1&g=1", false, 0, 0, 0, 0);
        conditionDue("!(k=1&g=1)", true, 0, 0, 0, 0);
        conditionDue("!k=0|g=0", true, 0, 0, 0, 0);
        conditionDue("!(k=0|g=0)", false, 0, 0, 0, 0);
        conditionDue("!!k=0", true, 0, 0, 0, 0);
        conditionDue("!!!k=0", false, 0, 0, 0, 0);
        conditionDue("!(!(k=0))", true, 0, 0, 0, 0);
        conditionDue("((((k=0))))&!((g=1))", true, 0, 0, 0, 0);
        conditionDue("k=1|k=2|k=3|k=4|k=5", true, 3, 0, 0, 0);
        conditionDue("k=1|k=2|k=3|k=4|k=5", false, 6, 0, 0, 0);
        conditionDue("k=1&g=1&v=1&f=1&p=1", true, 1, 1, 1, 1);
        conditionDue("k=1&g=1&v=1&f=1&p=1", false, 1, 0, 1, 1);
        conditionDue("k=0|k=1|k=2|k=3|k=4|k=5|k=6|k=7|k=8|k=9", true, 0, 0, 0, 0);
        conditionDue("k=0|k=1|k=2|k=3|k=4|k=5|k=6|k=7|k=8|k=9", true, 9, 0, 0, 0);
        conditionDue("k<9&(k<8&(k<7&(k<6&(k<5&(k<4&(k<3))))))", true, 2, 0, 0, 0);
        conditionDue("k<9&(k<8&(k<7&(k<6&(k<5&(k<4&(k<3))))))", false, 3, 0, 0, 0);
        conditionDue("!".repeat(37) + "k=0", false, 0, 0, 0, 0);
        conditionDue("(".repeat(18) + "k=0" + ")".repeat(18), true, 0, 0, 0, 0);
    }

    private static void faultDue(String text, int want) {
        ViewMaintainer x = new ViewMaintainer();
        check.due(36, "setFilter() of " + text, want < 0 ? "0" : "throws.IllegalArgumentException",
                () -> Check.filter(x, text));
        check.due(37, "faultPosition() of " + text, want, () -> x.faultPosition());
    }

    private static void faults() {
        check.due(37, "faultPosition() of a new object", -1, () -> new ViewMaintainer().faultPosition());
        faultDue("", 0);
        faultDue("k", 1);
        faultDue("k<", 2);
        faultDue("k<-", 3);
        faultDue("k<-1", -1);
        faultDue("k<--1", 3);
        faultDue("k<1-", 3);
        faultDue("k<+1", 2);
        faultDue("k<123", -1);
        faultDue("k<1234", 5);
        faultDue("k<-123", -1);
        faultDue("k<-1234", 6);
        faultDue("k<0000", 5);
        faultDue("x<1", 0);
        faultDue("K<1", 0);
        faultDue("1<k", 0);
        faultDue("k!1", 1);
        faultDue("k<=1", 2);
        faultDue("k==1", 2);
        faultDue("k<g", 2);
        faultDue("k<1k", 3);
        faultDue("k<1!", 3);
        faultDue("k<1(", 3);
        faultDue("k<1)", 3);
        faultDue("k<1&", 4);
        faultDue("k<1|", 4);
        faultDue("k<1&&k<1", 4);
        faultDue("k<1||k<1", 4);
        faultDue("k<1|&k<1", 4);
        faultDue("&k<1", 0);
        faultDue("|k<1", 0);
        faultDue(")", 0);
        faultDue("()", 1);
        faultDue("(k<1", 4);
        faultDue("(k<1))", 5);
        faultDue("((k<1)", 6);
        faultDue("(k<1)k", 5);
        faultDue("(k<1)(", 5);
        faultDue("(k<1)1", 5);
        faultDue("(k<1)!", 5);
        faultDue("(k<1)&(g=1|)", 11);
        faultDue("!", 1);
        faultDue("!)", 1);
        faultDue("!&", 1);
        faultDue("!1", 1);
        faultDue("k!", 1);
        faultDue("-k<1", 0);
        faultDue("k<1&x", 4);
        faultDue("k<1/k", 3);
        faultDue("k<1:", 3);
        faultDue("(".repeat(40), 40);
        faultDue("!".repeat(40), 40);
        faultDue("(".repeat(18) + "k=0" + ")".repeat(19), 39);
        faultDue("(".repeat(19) + "k=0" + ")".repeat(18), 40);
        faultDue("k=0|k=1|k=2|k=3|k=4|k=5|k=6|k=7|k=8|k=9", -1);
        faultDue("k=0|k=1|k=2|k=3|k=4|k=5|k=6|k=7|k=8|k=9|", 40);
        faultDue("k=0|k=1|k=2|k=3|k=4|k=5|k=6|k=7|k=8|k=99", -1);
        faultDue("~", 0);
    }

    /** Nothing of an earlier text is left in a later one. */
    private static void textsBehindOneAnother() {
        for (String first : new String[] {"!", "(", "k=1&", "k=1|", "!(k=1|", "k=1)", "k=1&!(k=1", "k", "k<-"}) {
            ViewMaintainer x = new ViewMaintainer();
            check.badArgument(36, "setFilter() of " + first, () -> Check.filter(x, first));
            check.due(36, "setFilter() of k=0 behind " + first, 0, () -> Check.filter(x, "k=0"));
            check.due(36, "k=0 behind " + first + " for key 0", true, () -> x.accepts(0, 0, 0, 0));
            check.due(36, "k=0 behind " + first + " for key 1", false, () -> x.accepts(1, 0, 0, 0));
            check.badArgument(36, "setFilter() of k=0) behind " + first, () -> Check.filter(x, "k=0)"));
            check.due(37, "faultPosition() of k=0)", 3, () -> x.faultPosition());
        }
        ViewMaintainer x = new ViewMaintainer();
        for (int i = 0; i < 12; i++) {
            int key = i % 10;
            check.due(36, "a long text", 0, () -> Check.filter(x, "!!!!!!!!!!!!(g=1&g=2)&v>5|k=" + key));
            check.due(36, "the latest text", true, () -> x.accepts(key, 1, 0, 0));
            check.due(36, "an earlier text", false, () -> x.accepts((key + 9) % 10, 1, 0, 0));
        }
        ViewMaintainer y = new ViewMaintainer();
        Check.filter(y, "v<-99&k=0");
        check.due(36, "setFilter() of v<-9 behind v<-99", 0, () -> Check.filter(y, "v<-9"));
        check.due(36, "v<-9 behind v<-99", true, () -> y.accepts(0, 0, -10, 0));
        for (int length = 0; length <= 3; length++) {
            String text = "v<-9".substring(0, length);
            check.badArgument(36, "setFilter() of " + text + " behind v<-9", () -> Check.filter(y, text));
            check.due(37, "faultPosition() of " + text, length, () -> y.faultPosition());
            Check.filter(y, "v<-9");
        }
    }

    private static void clearFilter() {
        ViewMaintainer x = sample();
        Check.filter(x, "k>0");
        x.insertLeft(0, 0, 1);
        Check.type(x, "k<");
        x.clearFilter();
        check.due(38, "joinSize()", 9, () -> x.joinSize());
        check.due(38, "danglingCount()", 0, () -> x.danglingCount());
        check.due(38, "groupSize(0)", 6, () -> x.groupSize(0));
        check.due(38, "accepts(0, 0, 0, 0)", true, () -> x.accepts(0, 0, 0, 0));
        check.due(38, "changeCount()", 0, () -> x.changeCount());
        check.due(38, "batchSize() stays", 1, () -> x.batchSize());
        check.due(38, "the text stays", 3, () -> x.appendCharacter('1'));
        check.due(38, "rollback() is still there", 4, () -> x.rollback());
        check.due(38, "joinSize() after rollback", 0, () -> x.joinSize());
    }

    private static void accepts() {
        ViewMaintainer x = new ViewMaintainer();
        check.due(39, "accepts(0, 0, -99, -9)", true, () -> x.accepts(0, 0, -99, -9));
        check.due(39, "accepts(9, 5, 99, 9)", true, () -> x.accepts(9, 5, 99, 9));
        Check.filter(x, "v>90&p<0");
        check.due(39, "accepts(9, 5, 99, 9)", false, () -> x.accepts(9, 5, 99, 9));
        check.due(39, "accepts(9, 5, 99, -9)", true, () -> x.accepts(9, 5, 99, -9));
        for (int bad : new int[] {LOW, -1, 10, HIGH}) {
            check.badArgument(39, "accepts(" + bad + ", 0, 0, 0)", () -> x.accepts(bad, 0, 0, 0));
        }
        for (int bad : new int[] {LOW, -1, 6, HIGH}) {
            check.badArgument(39, "accepts(0, " + bad + ", 0, 0)", () -> x.accepts(0, bad, 0, 0));
        }
        for (int bad : new int[] {LOW, -100, 100, HIGH}) {
            check.badArgument(39, "accepts(0, 0, " + bad + ", 0)", () -> x.accepts(0, 0, bad, 0));
        }
        for (int bad : new int[] {LOW, -10, 10, HIGH}) {
            check.badArgument(39, "accepts(0, 0, 0, " + bad + ")", () -> x.accepts(0, 0, 0, bad));
        }
    }
}
