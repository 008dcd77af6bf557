import java.lang.reflect.InvocationTargetException;
import java.lang.reflect.Method;
import java.util.HashMap;
import java.util.Map;

/**
 * An object under test. Its calls are written as in "insertLeft(1, 0, 5)", so that what is told of a
 * wrong answer is the very call, and they are counted: nothing is promised behind the 512th.
 */
final class Subject {
    /** Makes an object anew, in the same state each time. */
    interface Maker {
        Subject make();
    }

    static final int LOW = Integer.MIN_VALUE;
    static final int HIGH = Integer.MAX_VALUE;

    static final String ARGUMENT = "throws.IllegalArgumentException";
    static final String STATE = "throws.IllegalStateException";
    static final String INDEX = "throws.IndexOutOfBoundsException";
    static final String ELEMENT = "throws.NoSuchElementException";
    static final String NOTHING = "nothing";

    private static final int CALL_LIMIT = 512;
    private static final Map<String, Method> FACE = new HashMap<>();

    static {
        for (Method method : ViewMaintainer.class.getDeclaredMethods()) {
            if (java.lang.reflect.Modifier.isPublic(method.getModifiers())) {
                FACE.put(method.getName(), method);
            }
        }
    }

    private static String sentence = "";
    private static int sentences = 0;
    private static int checks = 0;
    private static int wrong = 0;

    private final ViewMaintainer object = new ViewMaintainer();
    private int calls = 0;

    /** The sentence of the document that the checks behind it are about. */
    static void about(String words) {
        sentence = words;
        sentences++;
    }

    static void same(String what, Object got, Object want) {
        checks++;
        if (!String.valueOf(got).equals(String.valueOf(want))) {
            wrong++;
            System.out.println("\"" + sentence + "\"\n  " + what + " is " + got + ", due is " + want);
        }
    }

    static void finish() {
        System.out.println(sentences + " sentences, " + checks + " checks, " + wrong + " wrong");
        if (wrong != 0) {
            System.exit(1);
        }
    }

    /** A call in writing. */
    static String call(String name, int... numbers) {
        StringBuilder text = new StringBuilder(name).append('(');
        for (int i = 0; i < numbers.length; i++) {
            text.append(i == 0 ? "" : ", ").append(numbers[i]);
        }
        return text.append(')').toString();
    }

    int calls() {
        return calls;
    }

    /** The answer of a call, or "throws." and the name of the exception that it throws. */
    String answer(String call) {
        Method method = FACE.get(call.substring(0, call.indexOf('(')));
        String list = call.substring(call.indexOf('(') + 1, call.length() - 1);
        Object[] numbers = list.isEmpty() ? new Object[0] : numbersOf(list.split(", "));
        calls++;
        if (calls > CALL_LIMIT) {
            throw new AssertionError("a test makes more than 512 calls: " + sentence);
        }
        try {
            Object answer = method.invoke(object, numbers);
            return method.getReturnType() == void.class ? NOTHING : String.valueOf(answer);
        } catch (InvocationTargetException e) {
            return "throws." + e.getCause().getClass().getSimpleName();
        } catch (IllegalAccessException e) {
            throw new AssertionError(e);
        }
    }

    private static Object[] numbersOf(String[] texts) {
        Object[] numbers = new Object[texts.length];
        for (int i = 0; i < texts.length; i++) {
            numbers[i] = Integer.parseInt(texts[i]);
        }
        return numbers;
    }

    Subject due(String call, Object want) {
        same(call, answer(call), want);
        return this;
    }

    /** Calls that only lead to a state, so none of them may throw. */
    Subject make(String... steps) {
        for (String step : steps) {
            String answer = answer(step);
            if (answer.startsWith("throws.")) {
                throw new AssertionError(sentence + ": " + step + " " + answer);
            }
        }
        return this;
    }

    Subject times(int times, String step) {
        for (int i = 0; i < times; i++) {
            make(step);
        }
        return this;
    }

    Subject type(String text) {
        for (int i = 0; i < text.length(); i++) {
            make(call("appendCharacter", text.charAt(i)));
        }
        return this;
    }

    /** A text that is appended and must be taken as the filter. */
    Subject filter(String text) {
        return type(text).make("setFilter()");
    }

    /** A text that is appended and must be refused. */
    Subject wrongFilter(String text) {
        return type(text).due("setFilter()", ARGUMENT);
    }

    /**
     * An argument at the edges of its range, beside them and far away, where the others are in range.
     * Within the range the call may answer anything but the refusal.
     */
    Subject range(String refusal, int place, int least, int greatest, String name, int... others) {
        for (int good : new int[] {least, least + 1, greatest - 1, greatest}) {
            String call = callWith(name, others, place, good);
            same(call + " is refused", answer(call).equals(refusal), false);
        }
        int[] far = {least - 1, greatest + 1, LOW, LOW + 1, HIGH - 1, HIGH,
            least + 65536, least - 65536, greatest + 256, greatest - 256 * 256 * 256};
        for (int bad : far) {
            due(callWith(name, others, place, bad), refusal);
        }
        return this;
    }

    private static String callWith(String name, int[] others, int place, int number) {
        int[] numbers = others.clone();
        numbers[place] = number;
        return call(name, numbers);
    }

    /** All rows of the join, "key,group,product*multiplicity" each. */
    String joinRows() {
        return rows("joinRow", "joinDistinct()", 4);
    }

    /** All rows of the latest change, in the same form. */
    String changeRows() {
        return rows("changeRow", "changeCount()", 4);
    }

    /** All dangling rows, "key,group,value" each. */
    String danglingRows() {
        return rows("danglingRow", "danglingCount()", 3);
    }

    private String rows(String name, String count, int columns) {
        StringBuilder rows = new StringBuilder();
        int size = Integer.parseInt(answer(count));
        for (int row = 0; row < size; row++) {
            for (int column = 0; column < columns; column++) {
                rows.append(column == 0 ? row == 0 ? "" : " " : column == 3 ? "*" : ",");
                rows.append(answer(call(name, row, column)));
            }
        }
        return rows.toString();
    }
}
