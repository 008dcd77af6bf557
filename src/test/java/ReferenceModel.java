import java.util.ArrayDeque;
import java.util.ArrayList;
import java.util.Deque;
import java.util.List;
import java.util.NoSuchElementException;
import java.util.TreeMap;

/**
 * The document's words in the plainest form: lists of rows, and every view made anew by every call.
 * Nothing in it is taken from the class under test.
 */
final class ReferenceModel {
    private List<int[]> left = new ArrayList<>();
    private List<int[]> right = new ArrayList<>();
    private List<int[]> plannedLeft = new ArrayList<>();
    private List<int[]> plannedRight = new ArrayList<>();
    private int batch = 0;
    private final Deque<List<List<int[]>>> undo = new ArrayDeque<>();
    private String filter = null;
    private String text = "";
    private int fault = -1;
    private List<int[]> watches = new ArrayList<>();
    private TreeMap<Integer, Integer> change = new TreeMap<>();
    private Object[] saved = null;

    /** Answers a call of the face by its name. */
    Object call(String name, int... a) {
        switch (name) {
            case "insertLeft": return insert(plannedLeft, checkedLeft(a[0], a[1], a[2]));
            case "deleteLeft": return delete(plannedLeft, checkedLeft(a[0], a[1], a[2]));
            case "insertRight": return insert(plannedRight, checkedRight(a[0], a[1]));
            case "deleteRight": return delete(plannedRight, checkedRight(a[0], a[1]));
            case "batchSize": return batch;
            case "discard": return emptyBatch();
            case "apply": return apply();
            case "rollback": return rollback();
            case "leftCount": return count(left, checkedLeft(a[0], a[1], a[2]));
            case "rightCount": return count(right, checkedRight(a[0], a[1]));
            case "leftSize": return left.size();
            case "rightSize": return right.size();
            case "joinSize": return join().values().stream().mapToInt(i -> i).sum();
            case "joinDistinct": return join().size();
            case "joinCount": return joinCount(a[0], a[1], a[2]);
            case "joinRow": return column(join(), a[0], a[1]);
            case "danglingCount": return dangling().size();
            case "danglingRow": return danglingRow(a[0], a[1]);
            case "groupSize": return group(a[0]).size();
            case "groupSum": return group(a[0]).stream().mapToInt(i -> i).sum();
            case "groupMinimum": return element(group(a[0]), 0);
            case "groupMaximum": return element(group(a[0]), group(a[0]).size() - 1);
            case "groupDistinct": return (int) group(a[0]).stream().distinct().count();
            case "groupElement": return element(group(a[0]), a[1]);
            case "groupAverage": return average(group(a[0]));
            case "qualifiedGroups": return qualified(a[0]);
            case "rankedGroup": return ranked(a[0]);
            case "changeCount": return change.size();
            case "changeRow": return column(change, a[0], a[1]);
            case "watch": return watch(a[0], a[1]);
            case "isRaised": return isRaised(a[0]);
            case "changedWatches": return changedWatches();
            case "clearWatches": return clearWatches();
            case "appendCharacter": return append(a[0]);
            case "setFilter": return setFilter();
            case "faultPosition": return fault;
            case "clearFilter": return clearFilter();
            case "accepts": return accepts(a[0], a[1], a[2], a[3]);
            case "save": return save();
            case "restore": return restore();
            default: throw new AssertionError(name);
        }
    }

    int textLength() {
        return text.length();
    }

    /** A row of a planned or present table that a run may wish to delete or to ask for. */
    int[] someRow(boolean ofLeft, boolean ofPlan, int choice) {
        List<int[]> rows = ofLeft ? (ofPlan ? plannedLeft : left) : (ofPlan ? plannedRight : right);
        return rows.isEmpty() ? null : rows.get(choice % rows.size());
    }

    private static void need(boolean condition, RuntimeException otherwise) {
        if (!condition) {
            throw otherwise;
        }
    }

    private static int[] checkedLeft(int key, int group, int value) {
        need(key >= 0 && key <= 9 && group >= 0 && group <= 5 && value >= -99 && value <= 99,
                new IllegalArgumentException());
        return new int[] {key, group, value};
    }

    private static int[] checkedRight(int key, int factor) {
        need(key >= 0 && key <= 9 && factor >= -9 && factor <= 9, new IllegalArgumentException());
        return new int[] {key, factor};
    }

    private int insert(List<int[]> table, int[] row) {
        need(batch < 40 && table.size() < 60, new IllegalStateException());
        table.add(row);
        return ++batch;
    }

    private int delete(List<int[]> table, int[] row) {
        need(batch < 40, new IllegalStateException());
        for (int i = 0; i < table.size(); i++) {
            if (java.util.Arrays.equals(table.get(i), row)) {
                table.remove(i);
                return ++batch;
            }
        }
        throw new NoSuchElementException();
    }

    private static int count(List<int[]> table, int[] row) {
        return (int) table.stream().filter(r -> java.util.Arrays.equals(r, row)).count();
    }

    private int emptyBatch() {
        int had = batch;
        plannedLeft = new ArrayList<>(left);
        plannedRight = new ArrayList<>(right);
        batch = 0;
        return had;
    }

    private int apply() {
        TreeMap<Integer, Integer> old = join();
        undo.push(List.of(left, right));
        while (undo.size() > 4) {
            undo.removeLast();
        }
        left = new ArrayList<>(plannedLeft);
        right = new ArrayList<>(plannedRight);
        batch = 0;
        return keepChange(old);
    }

    private int rollback() {
        need(!undo.isEmpty(), new IllegalStateException());
        TreeMap<Integer, Integer> old = join();
        List<List<int[]>> tables = undo.pop();
        left = new ArrayList<>(tables.get(0));
        right = new ArrayList<>(tables.get(1));
        emptyBatch();
        return keepChange(old);
    }

    private int keepChange(TreeMap<Integer, Integer> old) {
        change = join();
        for (int row : old.keySet()) {
            change.merge(row, -old.get(row), Integer::sum);
        }
        change.values().removeIf(difference -> difference == 0);
        return change.size();
    }

    private static int number(int key, int group, int product) {
        return key * 100000 + group * 10000 + product + 1000;
    }

    private TreeMap<Integer, Integer> join() {
        TreeMap<Integer, Integer> rows = new TreeMap<>();
        for (int[] l : left) {
            for (int[] r : right) {
                if (matches(l, r)) {
                    rows.merge(number(l[0], l[1], l[2] * r[1]), 1, Integer::sum);
                }
            }
        }
        return rows;
    }

    private boolean matches(int[] l, int[] r) {
        return l[0] == r[0] && holds(l[0], l[1], l[2], r[1]);
    }

    private int joinCount(int key, int group, int product) {
        int count = 0;
        for (int[] l : left) {
            for (int[] r : right) {
                if (matches(l, r) && l[0] == key && l[1] == group && l[2] * r[1] == product) {
                    count++;
                }
            }
        }
        return count;
    }

    private static int column(TreeMap<Integer, Integer> rows, int index, int column) {
        need(index >= 0 && index < rows.size() && column >= 0 && column <= 3, new IndexOutOfBoundsException());
        int row = new ArrayList<>(rows.keySet()).get(index);
        return new int[] {row / 100000, row / 10000 % 10, row % 10000 - 1000, rows.get(row)}[column];
    }

    private List<int[]> dangling() {
        List<int[]> rows = new ArrayList<>();
        for (int[] l : left) {
            if (right.stream().noneMatch(r -> matches(l, r))) {
                rows.add(l);
            }
        }
        rows.sort((a, b) -> Integer.compare(number(a[0], a[1], a[2]), number(b[0], b[1], b[2])));
        return rows;
    }

    private int danglingRow(int index, int column) {
        List<int[]> rows = dangling();
        need(index >= 0 && index < rows.size() && column >= 0 && column <= 2, new IndexOutOfBoundsException());
        return rows.get(index)[column];
    }

    private List<Integer> group(int group) {
        need(group >= 0 && group <= 5, new IndexOutOfBoundsException());
        List<Integer> products = new ArrayList<>();
        for (int[] l : left) {
            for (int[] r : right) {
                if (l[1] == group && matches(l, r)) {
                    products.add(l[2] * r[1]);
                }
            }
        }
        products.sort(null);
        return products;
    }

    private static int element(List<Integer> products, int index) {
        need(index >= 0 && index < products.size(), new NoSuchElementException());
        return products.get(index);
    }

    private static double average(List<Integer> products) {
        need(!products.isEmpty(), new NoSuchElementException());
        return (double) products.stream().mapToInt(i -> i).sum() / (double) products.size();
    }

    private static boolean reaches(List<Integer> products, int bound) {
        return !products.isEmpty() && products.stream().mapToInt(i -> i).sum() >= bound;
    }

    private int qualified(int bound) {
        int set = 0;
        for (int g = 0; g < 6; g++) {
            set += reaches(group(g), bound) ? 1 << g : 0;
        }
        return set;
    }

    private int ranked(int rank) {
        List<Integer> groups = new ArrayList<>();
        for (int g = 0; g < 6; g++) {
            if (!group(g).isEmpty()) {
                groups.add(g);
            }
        }
        need(rank >= 0 && rank < groups.size(), new IndexOutOfBoundsException());
        groups.sort((a, b) -> Integer.compare((int) call("groupSum", b), (int) call("groupSum", a)));
        return groups.get(rank);
    }

    private int watch(int group, int bound) {
        need(group >= 0 && group <= 5, new IndexOutOfBoundsException());
        need(watches.size() < 6, new IllegalStateException());
        watches.add(new int[] {group, bound});
        return watches.size() - 1;
    }

    private boolean isRaised(int watch) {
        need(watch >= 0 && watch < watches.size(), new IndexOutOfBoundsException());
        return reaches(group(watches.get(watch)[0]), watches.get(watch)[1]);
    }

    private int changedWatches() {
        int set = 0;
        for (int w = 0; w < watches.size(); w++) {
            int size = 0;
            int sum = 0;
            TreeMap<Integer, Integer> before = join();
            change.forEach((row, difference) -> before.merge(row, -difference, Integer::sum));
            for (int row : before.keySet()) {
                if (row / 10000 % 10 == watches.get(w)[0]) {
                    size += before.get(row);
                    sum += before.get(row) * (row % 10000 - 1000);
                }
            }
            boolean was = size > 0 && sum >= watches.get(w)[1];
            set += was != isRaised(w) ? 1 << w : 0;
        }
        return set;
    }

    private int clearWatches() {
        int had = watches.size();
        watches.clear();
        return had;
    }

    private int append(int character) {
        need(character >= 33 && character <= 126, new IllegalArgumentException());
        need(text.length() < 40, new IllegalStateException());
        text += (char) character;
        return text.length();
    }

    private int setFilter() {
        String read = text;
        text = "";
        fault = faultOf(read);
        need(fault < 0, new IllegalArgumentException());
        filter = read;
        change.clear();
        return (int) call("joinSize");
    }

    private Object clearFilter() {
        filter = null;
        change.clear();
        return null;
    }

    private boolean accepts(int key, int group, int value, int factor) {
        checkedLeft(key, group, value);
        checkedRight(key, factor);
        return holds(key, group, value, factor);
    }

    private Object save() {
        saved = new Object[] {new ArrayList<>(left), new ArrayList<>(right), filter, new ArrayList<>(watches)};
        return null;
    }

    @SuppressWarnings("unchecked")
    private Object restore() {
        need(saved != null, new IllegalStateException());
        left = new ArrayList<>((List<int[]>) saved[0]);
        right = new ArrayList<>((List<int[]>) saved[1]);
        filter = (String) saved[2];
        watches = new ArrayList<>((List<int[]>) saved[3]);
        emptyBatch();
        undo.clear();
        change.clear();
        return null;
    }

    /** Walks from character to character: what may come next depends on a kind of place and a depth. */
    static int faultOf(String text) {
        String place = "factor";
        int depth = 0;
        for (int i = 0; i < text.length(); i++) {
            char c = text.charAt(i);
            boolean digit = c >= '0' && c <= '9';
            boolean ended = place.equals("closed") || place.startsWith("digit");
            if (place.equals("factor") && c == '!') {
                place = "factor";
            } else if (place.equals("factor") && c == '(') {
                depth++;
            } else if (place.equals("factor") && "kgvfp".indexOf(c) >= 0) {
                place = "name";
            } else if (place.equals("name") && "<=>".indexOf(c) >= 0) {
                place = "relation";
            } else if (place.equals("relation") && c == '-') {
                place = "minus";
            } else if ((place.equals("relation") || place.equals("minus")) && digit) {
                place = "digit1";
            } else if (place.equals("digit1") && digit) {
                place = "digit2";
            } else if (place.equals("digit2") && digit) {
                place = "digit3";
            } else if (ended && (c == '&' || c == '|')) {
                place = "factor";
            } else if (ended && c == ')' && depth > 0) {
                place = "closed";
                depth--;
            } else {
                return i;
            }
        }
        boolean ended = place.equals("closed") || place.startsWith("digit");
        return ended && depth == 0 ? -1 : text.length();
    }

    private boolean holds(int key, int group, int value, int factor) {
        return filter == null || condition(filter, new int[] {key, group, value, factor, value * factor});
    }

    /** Splits at the operator that binds least, outside of all parentheses. */
    private static boolean condition(String text, int[] numbers) {
        for (char operator : new char[] {'|', '&'}) {
            int depth = 0;
            for (int i = 0; i < text.length(); i++) {
                depth += text.charAt(i) == '(' ? 1 : text.charAt(i) == ')' ? -1 : 0;
                if (depth == 0 && text.charAt(i) == operator) {
                    boolean first = condition(text.substring(0, i), numbers);
                    boolean second = condition(text.substring(i + 1), numbers);
                    return operator == '|' ? first || second : first && second;
                }
            }
        }
        if (text.charAt(0) == '!') {
            return !condition(text.substring(1), numbers);
        }
        if (text.charAt(0) == '(') {
            return condition(text.substring(1, text.length() - 1), numbers);
        }
        int number = numbers["kgvfp".indexOf(text.charAt(0))];
        int order = Integer.compare(number, Integer.parseInt(text.substring(2)));
        return order == "<=>".indexOf(text.charAt(1)) - 1;
    }
}
