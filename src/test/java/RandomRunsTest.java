import java.lang.reflect.InvocationTargetException;
import java.lang.reflect.Method;
import java.util.ArrayList;
import java.util.Arrays;
import java.util.List;
import java.util.Objects;
import java.util.Random;

/** Long runs of calls, the same in every test, whose answers must be those of the reference model. */
public final class RandomRunsTest {
    private static final int RUNS = 1500;
    private static final int CALLS = 512;

    private final Random random;
    private final ViewMaintainer real = new ViewMaintainer();
    private final ReferenceModel model = new ReferenceModel();
    private final List<String> told = new ArrayList<>();
    // A few keys and values let rows meet; all of them reach the limits.
    private final int keys;
    private final int values;
    private final int insertions;
    private int calls = 0;

    private RandomRunsTest(int seed) {
        random = new Random(seed);
        keys = new int[] {1, 2, 4, 10}[seed % 4];
        values = new int[] {2, 6, 99}[seed % 3];
        insertions = new int[] {30, 45, 60}[seed / 4 % 3];
    }

    public static void main(String[] args) throws Exception {
        for (int seed = 0; seed < RUNS; seed++) {
            if (!new RandomRunsTest(seed).run()) {
                System.out.println("run " + seed + " has a wrong answer");
                System.exit(1);
            }
        }
        System.out.println(RUNS + " runs of " + CALLS + " calls: all answers are as due");
    }

    private boolean run() throws Exception {
        while (calls < CALLS) {
            if (!step(random.nextInt(100))) {
                told.subList(Math.max(0, told.size() - 60), told.size()).forEach(System.out::println);
                return false;
            }
        }
        return true;
    }

    private boolean step(int choice) throws Exception {
        if (choice < insertions) {
            return changeTable();
        }
        switch (random.nextInt(8)) {
            case 0: return same(pick("apply", "apply", "apply", "rollback", "rollback", "discard"));
            case 1: return random.nextInt(4) == 0 ? same(pick("save", "restore", "clearFilter", "clearWatches"))
                    : same("apply");
            case 2: return random.nextInt(3) == 0 ? writeFilter() : same("changedWatches");
            case 3: return askWatch();
            case 4: return askGroup();
            case 5: return askRows();
            case 6: return same(pick("batchSize", "leftSize", "rightSize", "joinSize", "joinDistinct",
                    "danglingCount", "changeCount", "changedWatches", "faultPosition"));
            default: return askTable();
        }
    }

    private boolean changeTable() throws Exception {
        boolean ofLeft = random.nextBoolean();
        String table = ofLeft ? "Left" : "Right";
        int[] row = model.someRow(ofLeft, true, random.nextInt(1000));
        if (row != null && random.nextInt(3) == 0) {
            return same("delete" + table, row);
        }
        if (random.nextInt(20) == 0) {
            return same("delete" + table, row(ofLeft));
        }
        return same("insert" + table, row(ofLeft));
    }

    private int[] row(boolean ofLeft) {
        int key = near(0, keys - 1);
        return ofLeft ? new int[] {key, near(0, 5), near(-values, values)}
                : new int[] {key, near(-Math.min(values, 9), Math.min(values, 9))};
    }

    /** A number of a range, and now and then one beside it or far away. */
    private int near(int least, int greatest) {
        int choice = random.nextInt(300);
        if (choice == 0) {
            return least - 1;
        }
        if (choice == 1) {
            return greatest + 1;
        }
        if (choice == 2) {
            return random.nextInt();
        }
        return least + random.nextInt(greatest - least + 1);
    }

    private boolean askTable() throws Exception {
        boolean ofLeft = random.nextBoolean();
        int[] row = model.someRow(ofLeft, false, random.nextInt(1000));
        if (row == null || random.nextInt(4) == 0) {
            row = row(ofLeft);
        }
        int[] partner = row(!ofLeft);
        switch (random.nextInt(3)) {
            case 0: return same(ofLeft ? "leftCount" : "rightCount", row);
            case 1: return ofLeft ? same("accepts", row[0], row[1], row[2], partner[1])
                    : same("accepts", row[0], partner[1], partner[2], row[1]);
            default: return ofLeft ? same("joinCount", row[0], row[1], row[2] * partner[1])
                    : same("joinCount", row[0], partner[1], partner[2] * row[1]);
        }
    }

    private boolean askRows() throws Exception {
        String view = pick("join", "change", "dangling");
        int size = (int) model.call(view.equals("join") ? "joinDistinct" : view + "Count");
        return same(view + "Row", near(0, size), near(0, view.equals("dangling") ? 2 : 3));
    }

    private boolean askGroup() throws Exception {
        String name = pick("groupSize", "groupSum", "groupMinimum", "groupMaximum", "groupDistinct",
                "groupElement", "groupAverage", "qualifiedGroups", "rankedGroup");
        int group = near(0, 5);
        if (name.equals("groupElement")) {
            int size = group >= 0 && group <= 5 ? (int) model.call("groupSize", group) : 1;
            return same(name, group, near(0, size));
        }
        return same(name, name.equals("qualifiedGroups") ? bound() : group);
    }

    private boolean askWatch() throws Exception {
        return random.nextInt(3) == 0 ? same("watch", near(0, 5), bound()) : same("isRaised", near(0, 6));
    }

    /** Often the very sum of a group. */
    private int bound() {
        int sum = (int) model.call("groupSum", random.nextInt(6));
        return random.nextInt(20) == 0 ? random.nextInt() : sum + random.nextInt(3) - 1;
    }

    private boolean writeFilter() throws Exception {
        String text = random.nextInt(4) == 0 ? noise() : condition(3);
        if (random.nextInt(4) == 0) {
            text = damaged(text);
        }
        for (int i = 0; i < text.length(); i++) {
            if (!same("appendCharacter", text.charAt(i))) {
                return false;
            }
        }
        if (random.nextInt(20) == 0) {
            return same("appendCharacter", near(33, 126));
        }
        return same("setFilter") && same("faultPosition") && same("joinSize");
    }

    private String condition(int depth) {
        int choice = random.nextInt(depth > 0 ? 6 : 1);
        switch (choice) {
            case 0: return pick("k", "g", "v", "f", "p") + pick("<", "=", ">") + number();
            case 1: return "!" + condition(depth - 1);
            case 2: return "(" + condition(depth - 1) + ")";
            case 3: return condition(depth - 1) + "&" + condition(depth - 1);
            case 4: return condition(depth - 1) + "|" + condition(depth - 1);
            default: return "!(" + condition(depth - 1) + ")";
        }
    }

    private String number() {
        String number = String.valueOf(random.nextInt(random.nextInt(4) == 0 ? 1000 : 4));
        number = random.nextInt(6) == 0 && number.length() < 3 ? "0" + number : number;
        return random.nextInt(3) == 0 ? "-" + number : number;
    }

    private String noise() {
        StringBuilder text = new StringBuilder();
        int length = random.nextInt(8);
        for (int i = 0; i < length; i++) {
            text.append("kgvfp<=>!()&|-01".charAt(random.nextInt(16)));
        }
        return text.toString();
    }

    private String damaged(String text) {
        int at = random.nextInt(text.length() + 1);
        int behind = Math.min(text.length(), at + random.nextInt(2));
        return text.substring(0, at) + pick("", "k", "0", "12", ")", "(", "!", "&", "|", "-", "<", "~")
                + text.substring(behind);
    }

    private String pick(String... names) {
        return names[random.nextInt(names.length)];
    }

    private boolean same(String name, int... arguments) throws Exception {
        calls++;
        String want = Check.told(() -> model.call(name, arguments));
        String got = really(name, arguments);
        told.add(name + Arrays.toString(arguments) + " answered " + got + ", due is " + want);
        return Objects.equals(got, want);
    }

    private String really(String name, int... arguments) throws Exception {
        Class<?>[] types = new Class<?>[arguments.length];
        Arrays.fill(types, int.class);
        Method method = ViewMaintainer.class.getMethod(name, types);
        try {
            return String.valueOf(method.invoke(real, Arrays.stream(arguments).boxed().toArray()));
        } catch (InvocationTargetException e) {
            return "throws." + e.getCause().getClass().getSimpleName();
        }
    }
}
