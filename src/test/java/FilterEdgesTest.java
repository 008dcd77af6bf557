/** Promises 35 to 39 and what "Description" says of the filter text, where a sentence names an edge. */
public final class FilterEdgesTest {
    private static final String DIGITS = "0123456789";
    private static final String NAMES = "kgvfp";
    private static final String FACTOR = "!(" + NAMES;

    public static void main(String[] args) {
        textOfAtMost40();
        textIsEmptyAtFirst();
        oneOrMoreTerms();
        oneOrMoreFactors();
        negatedFactors();
        parentheses();
        names();
        relations();
        oneToThreeDigits();
        minus();
        zerosAtTheBeginning();
        numbersBeyondAllRows();
        noSpaces();
        conditionHolds();
        firstCharacterThatCannotContinue();
        allShortTexts();
        textThatEndsTooEarly();
        faultOfAFullText();
        appendRange();
        appendAnswers();
        appendFull();
        setFilterReads();
        setFilterEmptiesTheText();
        setFilterLeavesTheFilter();
        setFilterLeavesTheBatch();
        setFilterAnswers();
        setFilterOfAFault();
        faultPositionOfNoCall();
        faultPositionOfTheLatestCall();
        textAndFaultStayOtherwise();
        clearFilter();
        clearFilterLeavesTheBatch();
        accepts();
        acceptsRange();
        Subject.finish();
    }

    private static void textOfAtMost40() {
        Subject.about("There is a text of at most 40 characters");
        String text39 = "k=0|k=1|k=2|k=3|k=4|k=5|k=6|k=7|k=8|k=9";
        Subject x = new Subject().type(text39).due("setFilter()", 0).due("accepts(9, 0, 0, 0)", true);
        x.type(text39).due("appendCharacter(57)", 40).due("setFilter()", 0);
        x.due("accepts(9, 0, 0, 0)", false).due("accepts(8, 0, 0, 0)", true);
        x.type(text39).due("appendCharacter(57)", 40).due("appendCharacter(57)", Subject.STATE);
        x.due("appendCharacter(41)", Subject.STATE).due("setFilter()", 0).due("faultPosition()", -1);
        x.due("accepts(9, 0, 0, 0)", false).due("appendCharacter(57)", 1);
    }

    private static void textIsEmptyAtFirst() {
        Subject.about("a text ..., which is empty at first.");
        new Subject().due("setFilter()", Subject.ARGUMENT).due("faultPosition()", 0);
        new Subject().due("appendCharacter(107)", 1).type("=1").due("setFilter()", 0).due("faultPosition()", -1);
    }

    private static void faultDue(String text, int fault) {
        Subject x = new Subject().type(text).due("setFilter()", fault < 0 ? "0" : Subject.ARGUMENT);
        Subject.same("the fault position of " + text, x.answer("faultPosition()"), fault);
    }

    private static void oneOrMoreTerms() {
        Subject.about("one or more terms with a \"|\" between two of them.");
        faultDue("", 0);
        String text = "k=0";
        for (int terms = 1; terms <= 10; terms++) {
            faultDue(text, -1);
            faultDue(text + "|", text.length() + 1);
            text += "|k=" + terms;
        }
        faultDue("|", 0);
        faultDue("|k=0", 0);
        faultDue("k=0||k=1", 4);
        faultDue("k=0|&k=1", 4);
        faultDue("(|k=1)", 1);
        faultDue("(k=1|)", 5);
    }

    private static void oneOrMoreFactors() {
        Subject.about("A term is one or more factors with a \"&\" between two of them.");
        String text = "k=0";
        for (int factors = 1; factors <= 10; factors++) {
            faultDue(text, -1);
            faultDue(text + "&", text.length() + 1);
            text += "&k=" + factors;
        }
        faultDue("&", 0);
        faultDue("&k=0", 0);
        faultDue("k=0&&k=1", 4);
        faultDue("k=0&|k=1", 4);
        faultDue("k=0k=1", 3);
        faultDue("k=0(k=1)", 3);
        faultDue("k=0!k=1", 3);
        faultDue("(k=0)(k=1)", 5);
        faultDue("(&k=1)", 1);
        faultDue("(k=1&)", 5);
    }

    private static void negatedFactors() {
        Subject.about("A factor is a \"!\" with a factor behind it");
        for (int signs = 0; signs <= 37; signs++) {
            Subject x = new Subject().type("!".repeat(signs) + "k=0").due("setFilter()", 0);
            x.due("accepts(0, 0, 0, 0)", signs % 2 == 0).due("accepts(1, 0, 0, 0)", signs % 2 == 1);
        }
        faultDue("!", 1);
        faultDue("!!", 2);
        faultDue("!&k=0", 1);
        faultDue("!|k=0", 1);
        faultDue("!)", 1);
        faultDue("!-1", 1);
        faultDue("k!=0", 1);
        faultDue("k=!0", 2);
        faultDue("k=0!", 3);
        faultDue("!".repeat(38) + "k=", 40);
    }

    private static void parentheses() {
        Subject.about("or a condition in parentheses");
        for (int depth = 0; depth <= 18; depth++) {
            String text = "(".repeat(depth) + "k=0" + ")".repeat(depth);
            Subject x = new Subject().type(text).due("setFilter()", 0);
            x.due("accepts(0, 0, 0, 0)", true).due("accepts(1, 0, 0, 0)", false);
            faultDue(text + ")", text.length());
            faultDue("(" + text, text.length() + 1);
        }
        for (int depth = 1; depth <= 9; depth++) {
            Subject x = new Subject().type("!(".repeat(depth) + "k=0" + ")".repeat(depth)).due("setFilter()", 0);
            x.due("accepts(0, 0, 0, 0)", depth % 2 == 0).due("accepts(1, 0, 0, 0)", depth % 2 == 1);
        }
        faultDue("()", 1);
        faultDue("(())", 2);
        faultDue(")k=0(", 0);
        faultDue("(k=0)", -1);
        faultDue("(k=0)&((g=0)|!(v=0))", -1);
        faultDue("(k=0)&((g=0)|!(v=0)", 19);
        faultDue("(k=0)&((g=0)|!(v=0)))", 20);
    }

    private static void names() {
        Subject.about("The names are k for the key, g for the group, v for the value, f for the factor, and p for the "
                + "product of the value and the factor.");
        int[][] pairs = {{0, 5, -99, 9}, {9, 0, 99, -9}, {3, 4, 0, 7}, {4, 3, 7, 0}, {1, 2, -1, -1}};
        for (int[] pair : pairs) {
            int[] numbers = {pair[0], pair[1], pair[2], pair[3], pair[2] * pair[3]};
            for (int name = 0; name < NAMES.length(); name++) {
                for (int beside = -1; beside <= 1; beside++) {
                    Subject x = new Subject().filter(NAMES.charAt(name) + "=" + (numbers[name] + beside));
                    x.due(Subject.call("accepts", pair), beside == 0);
                }
            }
        }
        for (char other = 33; other <= 126; other++) {
            faultDue(other + "=1", NAMES.indexOf(other) >= 0 ? -1 : other == '!' || other == '(' ? 1 : 0);
        }
    }

    private static void relations() {
        Subject.about("A comparison is a name, then one of the characters \"<\", \"=\" and \">\", then a number");
        for (int number : new int[] {-99, -1, 0, 1, 99}) {
            for (int beside = -1; beside <= 1; beside++) {
                if (number + beside >= -99 && number + beside <= 99) {
                    String accepts = Subject.call("accepts", 0, 0, number + beside, 0);
                    new Subject().filter("v<" + number).due(accepts, beside < 0);
                    new Subject().filter("v=" + number).due(accepts, beside == 0);
                    new Subject().filter("v>" + number).due(accepts, beside > 0);
                }
            }
        }
        faultDue("k", 1);
        faultDue("k1", 1);
        faultDue("kk=1", 1);
        faultDue("k<=1", 2);
        faultDue("k=>1", 2);
        faultDue("k<>1", 2);
        faultDue("k==1", 2);
        faultDue("1=k", 0);
        faultDue("=1", 0);
        faultDue("k=g", 2);
    }

    private static void oneToThreeDigits() {
        Subject.about("a number: 1 to 3 digits");
        faultDue("p>", 2);
        faultDue("p>8", -1);
        faultDue("p>89", -1);
        faultDue("p>890", -1);
        faultDue("p>8900", 5);
        faultDue("p>89001", 5);
        faultDue("p>&k=1", 2);
        faultDue("p>8&k=1", -1);
        faultDue("p>89&k=1", -1);
        faultDue("p>890&k=1", -1);
        faultDue("p>8900&k=1", 5);
        faultDue("(p>890)", -1);
        faultDue("(p>8900)", 6);
        new Subject().filter("p>8").due("accepts(0, 0, 1, 8)", false).due("accepts(0, 0, 1, 9)", true);
        new Subject().filter("p>89").due("accepts(0, 0, 89, 1)", false).due("accepts(0, 0, 90, 1)", true);
        new Subject().filter("p>890").due("accepts(0, 0, 98, 9)", false).due("accepts(0, 0, 99, 9)", true);
        new Subject().filter("p=123").due("accepts(0, 0, 41, 3)", true).due("accepts(0, 0, 41, 2)", false);
    }

    private static void minus() {
        Subject.about("possibly with a \"-\" before the first one.");
        faultDue("p>-", 3);
        faultDue("p>-8", -1);
        faultDue("p>-89", -1);
        faultDue("p>-890", -1);
        faultDue("p>-8900", 6);
        faultDue("p>--8", 3);
        faultDue("p>8-", 3);
        faultDue("p>8-9", 3);
        faultDue("p>89-0", 4);
        faultDue("p>890-", 5);
        faultDue("p-1", 1);
        faultDue("-p>1", 0);
        faultDue("p>-&k=1", 3);
        faultDue("p>+8", 2);
        new Subject().filter("p<-890").due("accepts(0, 0, -99, 9)", true).due("accepts(0, 0, -98, 9)", false);
        new Subject().filter("v=-9").due("accepts(0, 0, -9, 0)", true).due("accepts(0, 0, 9, 0)", false);
        new Subject().filter("v=-0").due("accepts(0, 0, 0, 0)", true).due("accepts(0, 0, 1, 0)", false);
        new Subject().filter("k>-1").due("accepts(0, 0, 0, 0)", true);
        new Subject().filter("k<-1").due("accepts(0, 0, 0, 0)", false);
    }

    private static void zerosAtTheBeginning() {
        Subject.about("Numbers in filters can have zeros at their beginning.");
        for (String text : new String[] {"k=7", "k=07", "k=007"}) {
            new Subject().filter(text).due("accepts(7, 0, 0, 0)", true).due("accepts(6, 0, 0, 0)", false);
        }
        for (String text : new String[] {"v=-7", "v=-07", "v=-007"}) {
            new Subject().filter(text).due("accepts(0, 0, -7, 0)", true).due("accepts(0, 0, 7, 0)", false);
        }
        for (String text : new String[] {"v=0", "v=00", "v=000", "v=-0", "v=-00", "v=-000"}) {
            new Subject().filter(text).due("accepts(0, 0, 0, 0)", true).due("accepts(0, 0, 1, 0)", false);
        }
        new Subject().filter("v=010").due("accepts(0, 0, 10, 0)", true).due("accepts(0, 0, 8, 0)", false);
        faultDue("v=0000", 5);
        faultDue("v=0007", 5);
        faultDue("v=-0000", 6);
    }

    private static void numbersBeyondAllRows() {
        Subject.about("a number: 1 to 3 digits, also one that no row can have");
        for (String name : new String[] {"k", "g", "v", "f", "p"}) {
            new Subject().filter(name + "<999").due("accepts(9, 5, 99, 9)", true);
            new Subject().filter(name + ">999").due("accepts(9, 5, 99, 9)", false);
            new Subject().filter(name + "=999").due("accepts(9, 5, 99, 9)", false);
            new Subject().filter(name + ">-999").due("accepts(0, 0, -99, 9)", true);
            new Subject().filter(name + "<-999").due("accepts(0, 0, -99, 9)", false);
        }
    }

    private static void noSpaces() {
        Subject.about("There are no spaces.");
        Subject x = new Subject().type("k").due("appendCharacter(32)", Subject.ARGUMENT).type("=1");
        x.due("setFilter()", 0).due("accepts(1, 0, 0, 0)", true).due("accepts(0, 0, 0, 0)", false);
        for (int blank : new int[] {9, 10, 13, 32, 160}) {
            x.due(Subject.call("appendCharacter", blank), Subject.ARGUMENT);
        }
        x.due("appendCharacter(33)", 1);
    }

    /** Three comparisons, a, b and c, that hold as the bits 1, 2 and 4 of a case tell. */
    private static void truths(String text, int cases) {
        String written = text.replace("a", "k=1").replace("b", "g=1").replace("c", "v=1");
        for (int bits = 0; bits < 8; bits++) {
            Subject x = new Subject().filter(written);
            x.due(Subject.call("accepts", bits & 1, bits >> 1 & 1, bits >> 2, 5), (cases >> bits & 1) == 1);
        }
    }

    private static void conditionHolds() {
        Subject.about("A condition holds if at least one of its terms holds, a term if all its factors hold, and a \"!\" "
                + "negates.");
        // Bit n of a set of cases: whether the condition holds if a, b and c are the bits of n.
        int a = 0b10101010;
        int b = 0b11001100;
        int c = 0b11110000;
        int all = 0b11111111;
        truths("a", a);
        truths("!a", all ^ a);
        truths("a|b|c", a | b | c);
        truths("a&b&c", a & b & c);
        truths("a|b&c", a | b & c);
        truths("a&b|c", a & b | c);
        truths("(a|b)&c", (a | b) & c);
        truths("a&(b|c)", a & (b | c));
        truths("!a&b", (all ^ a) & b);
        truths("!a|b", (all ^ a) | b);
        truths("a&!b|c", a & (all ^ b) | c);
        truths("a|!b&c", a | (all ^ b) & c);
        truths("!(a&b)|c", (all ^ (a & b)) | c);
        truths("!(a|b)&c", (all ^ (a | b)) & c);
        truths("!(a|b|c)", all ^ (a | b | c));
        truths("!(a&b&c)", all ^ (a & b & c));
        truths("a&b|!a&c", a & b | (all ^ a) & c);
        truths("!!a&!b", a & (all ^ b));
        truths("!(!a|!b)&!c", a & b & (all ^ c));
        truths("a|b&c|a&c", a | b & c | a & c);
        truths("((a)|(b))&((c))", (a | b) & c);
        truths("a&!a", 0);
        truths("a|!a", all);
    }

    /** Whether each character can continue a text that some filter text begins with. */
    private static void continuations(String begin, String possible) {
        for (char next = 33; next <= 126; next++) {
            Subject x = new Subject().type(begin + next);
            x.answer("setFilter()");
            boolean isFault = x.answer("faultPosition()").equals(String.valueOf(begin.length()));
            Subject.same("whether " + begin + " is at fault with " + next, isFault, possible.indexOf(next) < 0);
        }
    }

    private static void firstCharacterThatCannotContinue() {
        Subject.about("The fault position of a text is the index of the first character that cannot continue a filter text");
        continuations("", FACTOR);
        for (char name : NAMES.toCharArray()) {
            continuations("" + name, "<=>");
        }
        for (String relation : new String[] {"k<", "g=", "v>"}) {
            continuations(relation, "-" + DIGITS);
        }
        continuations("k<-", DIGITS);
        continuations("k<1", DIGITS + "&|");
        continuations("k<12", DIGITS + "&|");
        continuations("k<123", "&|");
        continuations("k<-0", DIGITS + "&|");
        continuations("k<-12", DIGITS + "&|");
        continuations("k<-123", "&|");
        continuations("(k<1", DIGITS + "&|)");
        continuations("(k<12", DIGITS + "&|)");
        continuations("(k<123", "&|)");
        continuations("(k<-123", "&|)");
        continuations("(", FACTOR);
        continuations("((", FACTOR);
        continuations("!", FACTOR);
        continuations("!!", FACTOR);
        continuations("!(", FACTOR);
        continuations("(!", FACTOR);
        continuations("(k<1)", "&|");
        continuations("((k<1)", "&|)");
        continuations("((k<1))", "&|");
        continuations("k<1&", FACTOR);
        continuations("k<1|", FACTOR);
        continuations("(k<1|", FACTOR);
        continuations("(k<1)&", FACTOR);
        continuations("k<1&!", FACTOR);
        continuations("k<1&(g=2", DIGITS + "&|)");
        continuations("k<1&(g=2)", "&|");
        continuations("k<1|g=999", "&|");
        // What stands behind the first fault does not matter.
        faultDue("k<1))&k", 3);
        faultDue("x<1&k<2", 0);
        faultDue("k<1&x&k", 4);
        faultDue("k<1&k<", 6);
    }

    /** Whether a text is a filter text: each part that is a condition or a factor shrinks to a "C". */
    private static boolean isFilterText(String text) {
        String shorter = text.replaceAll("[kgvfp][<=>]-?[0-9]{1,3}", "C");
        for (String before = ""; !before.equals(shorter);) {
            before = shorter;
            shorter = shorter.replace("!C", "C").replace("(C)", "C").replace("C&C", "C").replace("C|C", "C");
        }
        return shorter.equals("C");
    }

    /** Whether a filter text begins with these characters. */
    private static boolean canGoOn(String begin) {
        for (String end : new String[] {"", "1", "<1", "k<1"}) {
            for (int closing = 0; closing <= begin.length(); closing++) {
                if (isFilterText(begin + end + ")".repeat(closing))) {
                    return true;
                }
            }
        }
        return false;
    }

    private static void textsBehind(String begin, int longest) {
        faultDue(begin, isFilterText(begin) ? -1 : begin.length());
        for (char next : "k<-1!()&|".toCharArray()) {
            String text = begin + next;
            if (!canGoOn(text)) {
                faultDue(text, begin.length());
            } else if (begin.length() < longest) {
                textsBehind(text, longest);
            }
        }
    }

    private static void allShortTexts() {
        Subject.about("The fault position of a text is the index of the first character that cannot continue a filter "
                + "text: in all short texts");
        textsBehind("", 7);
    }

    private static void textThatEndsTooEarly() {
        Subject.about("it is the length of the text if the text ends too early.");
        String[] texts = {"!(k<-12|g=3)&!!(v>0&(f=-9|p<891))|k=007", "(((((((((((((k=1)))))))))))))|!(!(!(g=2)))",
            "k=0|k=1|k=2|k=3|k=4|k=5|k=6|k=7|k=8|k=99"};
        for (String text : texts) {
            for (int length = 0; length <= Math.min(text.length(), 40); length++) {
                String begin = text.substring(0, length);
                faultDue(begin, isFilterText(begin) ? -1 : length);
            }
        }
        faultDue("", 0);
        faultDue("(", 1);
        faultDue("(k=1", 4);
        faultDue("k=1&", 4);
    }

    private static void faultOfAFullText() {
        Subject.about("it is the length of the text if the text ends too early: at 39 and at 40 characters");
        faultDue("(".repeat(39), 39);
        faultDue("(".repeat(40), 40);
        faultDue("!".repeat(39), 39);
        faultDue("!".repeat(40), 40);
        faultDue("(".repeat(36) + "k=1", 39);
        faultDue("(".repeat(36) + "k=12", 40);
        faultDue("!".repeat(37) + "k=1", -1);
        faultDue("!".repeat(36) + "k=1", -1);
        faultDue("!".repeat(36) + "k=1)", 39);
        faultDue("!".repeat(36) + "k=1&", 40);
        faultDue("(".repeat(18) + "k=1" + ")".repeat(18) + "&", 40);
        faultDue("(".repeat(18) + "k=12" + ")".repeat(18), -1);
        faultDue("(".repeat(18) + "k=1" + ")".repeat(19), 39);
    }

    private static void appendRange() {
        Subject.about("appendCharacter throws IllegalArgumentException if character is not from 33 to 126");
        new Subject().range(Subject.ARGUMENT, 0, 33, 126, "appendCharacter", 0).due("appendCharacter(33)", 5);
        Subject x = new Subject();
        for (int bad = 0; bad <= 32; bad++) {
            x.due(Subject.call("appendCharacter", bad), Subject.ARGUMENT);
        }
        for (int bad = 127; bad <= 300; bad++) {
            x.due(Subject.call("appendCharacter", bad), Subject.ARGUMENT);
        }
        // The character '(' and one of 16 bits that would be the same in 8 or 16 of them.
        x.due("appendCharacter(296)", Subject.ARGUMENT).due("appendCharacter(65576)", Subject.ARGUMENT);
        x.due("appendCharacter(-216)", Subject.ARGUMENT).due("appendCharacter(40)", 1);
    }

    private static void appendAnswers() {
        Subject.about("appendCharacter returns the new length of the text.");
        Subject x = new Subject();
        for (int length = 1; length <= 40; length++) {
            x.due(Subject.call("appendCharacter", 33 + length), length);
        }
        x.answer("setFilter()");
        for (int length = 41; length <= 53; length++) {
            x.due(Subject.call("appendCharacter", 33 + 40 + length), length - 40);
        }
    }

    private static void appendFull() {
        Subject.about("appendCharacter throws IllegalStateException if the text has 40 characters");
        Subject x = new Subject().times(38, "appendCharacter(33)").due("appendCharacter(33)", 39);
        x.due("appendCharacter(33)", 40).due("appendCharacter(33)", Subject.STATE).due("appendCharacter(126)", Subject.STATE);
        x.due("setFilter()", Subject.ARGUMENT).due("faultPosition()", 40).due("appendCharacter(33)", 1);
        Subject y = new Subject().type("!".repeat(37) + "k=0").due("appendCharacter(48)", Subject.STATE);
        y.make("clearFilter()").due("appendCharacter(48)", Subject.STATE).due("setFilter()", 0);
        y.due("accepts(0, 0, 0, 0)", false).due("faultPosition()", -1);
    }

    private static Subject twoPairs() {
        return new Subject().make("insertLeft(0, 0, 1)", "insertLeft(1, 1, 2)", "insertRight(0, 3)", "insertRight(1, 4)",
                "apply()");
    }

    private static void setFilterReads() {
        Subject.about("Reads the text as a filter text, makes it the filter");
        Subject x = twoPairs().due("joinSize()", 2).type("k=0").due("joinSize()", 2).due("accepts(1, 0, 0, 0)", true);
        x.due("setFilter()", 1).due("joinSize()", 1).due("accepts(1, 0, 0, 0)", false).due("danglingCount()", 1);
        Subject.same("the join", x.joinRows(), "0,0,3*1");
        x.type("k=1").due("setFilter()", 1);
        Subject.same("the join under the next filter", x.joinRows(), "1,1,8*1");
        x.due("groupSum(1)", 8).due("groupSize(0)", 0).due("rankedGroup(0)", 1).due("changeCount()", 0);
    }

    private static void setFilterEmptiesTheText() {
        Subject.about("and empties the text. The text is emptied also if an exception is thrown");
        Subject x = new Subject().filter("k=1").due("setFilter()", Subject.ARGUMENT).due("faultPosition()", 0);
        x.filter("k=1").due("appendCharacter(107)", 1).due("setFilter()", Subject.ARGUMENT).due("faultPosition()", 1);
        x.due("appendCharacter(107)", 1).type("=2").due("setFilter()", 0).due("accepts(2, 0, 0, 0)", true);
        x.times(40, "appendCharacter(41)").due("setFilter()", Subject.ARGUMENT).due("appendCharacter(41)", 1);
        x.due("setFilter()", Subject.ARGUMENT).due("setFilter()", Subject.ARGUMENT).due("faultPosition()", 0);
        // Nothing of a longer text stands behind a shorter one.
        x.filter("k=123&g=4").filter("k=1").due("accepts(1, 0, 0, 0)", true).wrongFilter("k=1&").due("faultPosition()", 4);
        x.wrongFilter("k=").due("faultPosition()", 2).wrongFilter("k").due("faultPosition()", 1);
    }

    private static void setFilterLeavesTheFilter() {
        Subject.about("The text is emptied also if an exception is thrown; the filter stays as it is then.");
        for (String wrong : new String[] {"", "k", "k=1|", "k=1&", "!", "(k=1", "k=1)", "k=1234", "x", "!(k=1|g=2)&"}) {
            Subject x = twoPairs().wrongFilter(wrong).due("joinSize()", 2).due("accepts(5, 0, 0, 0)", true);
            x.due("changeCount()", 2).type("k=0").due("setFilter()", 1).wrongFilter(wrong);
            x.due("joinSize()", 1).due("accepts(0, 0, 0, 0)", true).due("accepts(1, 0, 0, 0)", false);
            x.make("insertRight(1, 5)", "insertRight(0, 5)").due("apply()", 1).due("joinSize()", 2);
            x.make("save()", "clearFilter()", "restore()").due("joinSize()", 2).due("accepts(1, 0, 0, 0)", false);
        }
    }

    private static void setFilterLeavesTheBatch() {
        Subject.about("setFilter: The batch stays.");
        for (int changes : new int[] {0, 1, 40}) {
            Subject x = twoPairs().times(changes, "insertRight(1, 2)").filter("k=1").due("batchSize()", changes);
            x.wrongFilter("k").due("batchSize()", changes).due("apply()", changes == 0 ? 0 : 1);
            x.due("rightSize()", 2 + changes).due("joinSize()", 1 + changes).due("rollback()", changes == 0 ? 0 : 1);
            x.due("rollback()", 1).due("rollback()", Subject.STATE);
        }
    }

    private static void setFilterAnswers() {
        Subject.about("setFilter returns the number of pairs that match.");
        Subject x = new Subject().type("k=0").due("setFilter()", 0).type("!k=0").due("setFilter()", 0).make("clearFilter()");
        x.times(40, "insertLeft(3, 3, 3)").make("apply()").times(20, "insertLeft(3, 3, 3)").times(20, "insertRight(3, 3)");
        x.type("k=3").due("setFilter()", 0).make("apply()").times(40, "insertRight(3, 3)").type("k=3").due("setFilter()", 1200);
        x.make("apply()").type("k=3").due("setFilter()", 3600).due("joinDistinct()", 1).type("k=4").due("setFilter()", 0);
        Subject y = new Subject().make("insertLeft(1, 1, 2)", "insertLeft(1, 1, 3)", "insertRight(1, 2)", "insertRight(1, 3)",
                "insertRight(2, 9)", "apply()");
        y.type("p=6").due("setFilter()", 2).due("joinDistinct()", 1).type("p<6").due("setFilter()", 1);
        y.type("p>5").due("setFilter()", 3).type("f=9").due("setFilter()", 0).type("k>0").due("setFilter()", 4);
    }

    private static void setFilterOfAFault() {
        Subject.about("setFilter throws IllegalArgumentException if the text has a fault");
        new Subject().due("setFilter()", Subject.ARGUMENT);
        new Subject().wrongFilter("k=0&").wrongFilter("~").wrongFilter("k=0000").type("k=000").due("setFilter()", 0);
        new Subject().type("(k=0").due("setFilter()", Subject.ARGUMENT).type("(k=0)").due("setFilter()", 0);
        new Subject().times(40, "appendCharacter(33)").due("setFilter()", Subject.ARGUMENT);
        new Subject().times(37, "appendCharacter(33)").type("k=0").due("setFilter()", 0);
    }

    private static void faultPositionOfNoCall() {
        Subject.about("Returns the fault position, or -1 if the text had no fault or setFilter has not been called.");
        Subject x = new Subject().due("faultPosition()", -1).type("k").due("faultPosition()", -1);
        x.make("clearFilter()", "apply()", "save()", "restore()").due("faultPosition()", -1);
        x.due("setFilter()", Subject.ARGUMENT).due("faultPosition()", 1).filter("k=1").due("faultPosition()", -1);
    }

    private static void faultPositionOfTheLatestCall() {
        Subject.about("Returns the fault position of the text that was read by the latest call of setFilter.");
        Subject x = new Subject().wrongFilter("k=1)").due("faultPosition()", 3).type("k=12345").due("faultPosition()", 3);
        x.due("setFilter()", Subject.ARGUMENT).due("faultPosition()", 5).due("faultPosition()", 5);
        x.make("clearFilter()").due("faultPosition()", 5).make("save()", "restore()").due("faultPosition()", 5);
        x.make("apply()", "rollback()").due("faultPosition()", 5).due("appendCharacter(32)", Subject.ARGUMENT);
        x.due("faultPosition()", 5).wrongFilter("").due("faultPosition()", 0).filter("k=1").due("faultPosition()", -1);
        x.wrongFilter(")").due("faultPosition()", 0).wrongFilter("(".repeat(40)).due("faultPosition()", 40);
    }

    private static void textAndFaultStayOtherwise() {
        Subject.about("the text that was read by the latest call of setFilter: no other call changes the fault position or "
                + "empties the text");
        String[] others = {"insertLeft(1, 1, 2)", "deleteLeft(1, 1, 1)", "insertRight(1, 2)", "deleteRight(1, 1)", "discard()",
            "apply()", "rollback()", "watch(0, 0)", "clearWatches()", "clearFilter()", "save()", "restore()",
            "accepts(0, 0, 0, 0)", "joinRow(0, 0)", "groupElement(1, 0)"};
        for (String other : others) {
            Subject x = new Subject().make("insertLeft(1, 1, 1)", "insertRight(1, 1)", "save()", "apply()");
            x.wrongFilter("k<1)").type("g=").make(other).due("faultPosition()", 3).due("appendCharacter(50)", 3);
            x.due("faultPosition()", 3).due("setFilter()", 0).due("faultPosition()", -1);
            x.due("accepts(0, 2, 0, 0)", true).due("accepts(0, 1, 0, 0)", false).make("clearFilter()");
        }
    }

    private static void clearFilter() {
        Subject.about("Makes the filter one that holds for all pairs.");
        Subject x = twoPairs().due("clearFilter()", Subject.NOTHING).due("joinSize()", 2).due("changeCount()", 0);
        x.filter("k=0&!k=0").due("joinSize()", 0).due("danglingCount()", 2).due("clearFilter()", Subject.NOTHING);
        x.due("joinSize()", 2).due("danglingCount()", 0).due("accepts(0, 0, -99, -9)", true);
        x.due("accepts(9, 5, 99, 9)", true).due("groupSum(1)", 8).due("changeCount()", 0);
        x.make("clearFilter()").due("joinSize()", 2).type("k=").make("clearFilter()").due("appendCharacter(48)", 3);
        x.due("setFilter()", 1).make("insertRight(1, 1)").due("apply()", 0).make("clearFilter()").due("joinSize()", 3);
    }

    private static void clearFilterLeavesTheBatch() {
        Subject.about("clearFilter: The batch stays.");
        for (int changes : new int[] {0, 1, 40}) {
            Subject x = twoPairs().filter("k=0").times(changes, "insertRight(1, 2)").make("clearFilter()");
            x.due("batchSize()", changes).due("joinSize()", 2).due("apply()", changes == 0 ? 0 : 1);
            x.due("joinSize()", 2 + changes).due("rollback()", changes == 0 ? 0 : 1).due("rollback()", 2);
        }
    }

    private static void accepts() {
        Subject.about("Returns whether the filter holds for a row of the left table and a row of the right table with the "
                + "same key, which need not be in the tables.");
        Subject x = new Subject().filter("v<0&f>0").due("accepts(9, 5, -1, 1)", true).due("accepts(0, 0, 0, 1)", false);
        x.due("accepts(0, 0, -1, 0)", false).due("accepts(0, 0, -99, 9)", true).due("leftSize()", 0).due("joinSize()", 0);
        x.make("insertLeft(0, 0, 1)", "insertRight(0, 1)", "apply()").due("accepts(0, 0, 1, 1)", false);
        x.due("accepts(0, 0, -1, 1)", true).due("joinSize()", 0).due("batchSize()", 0);
    }

    private static void acceptsRange() {
        Subject.about("accepts throws IllegalArgumentException if a number is out of range");
        for (String text : new String[] {"", "k=0", "!k=0"}) {
            Subject x = text.isEmpty() ? new Subject() : new Subject().filter(text);
            x.range(Subject.ARGUMENT, 0, 0, 9, "accepts", 0, 0, 0, 0);
            x.range(Subject.ARGUMENT, 1, 0, 5, "accepts", 0, 0, 0, 0);
            x.range(Subject.ARGUMENT, 2, -99, 99, "accepts", 0, 0, 0, 0);
            x.range(Subject.ARGUMENT, 3, -9, 9, "accepts", 0, 0, 0, 0);
            x.due("accepts(10, 6, 100, 10)", Subject.ARGUMENT).due("accepts(-1, -1, -100, -10)", Subject.ARGUMENT);
        }
    }
}
