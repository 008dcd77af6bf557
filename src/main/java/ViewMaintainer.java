import java.util.Arrays;
import java.util.NoSuchElementException;

/**
 * A maintainer for materialized views over two base tables: a join, a left outer join, aggregates
 * of groups, and what changes in them by each batch of insertions and deletions.
 */
public final class ViewMaintainer {
    private static final int KEYS = 10;
    private static final int GROUPS = 6;
    private static final int VALUE_LIMIT = 99;
    private static final int VALUES = 2 * VALUE_LIMIT + 1;
    private static final int FACTOR_LIMIT = 9;
    private static final int FACTORS = 2 * FACTOR_LIMIT + 1;
    private static final int PRODUCT_LIMIT = VALUE_LIMIT * FACTOR_LIMIT;
    private static final int PRODUCTS = 2 * PRODUCT_LIMIT + 1;

    private static final int TABLE_LIMIT = 60;
    private static final int BATCH_LIMIT = 40;
    private static final int UNDO_LIMIT = 4;
    private static final int WATCH_LIMIT = 6;
    private static final int TEXT_LIMIT = 40;
    private static final int DIGIT_LIMIT = 3;

    // A row of the left table meets at most FACTORS different rows of the right one.
    private static final int JOIN_LIMIT = TABLE_LIMIT * FACTORS;
    // All rows of the old join may go while all rows of the new one come.
    private static final int CHANGE_LIMIT = 2 * JOIN_LIMIT;

    private static final int JOIN_COLUMNS = 4;
    private static final int DANGLING_COLUMNS = 3;

    private static final int FIRST_CHARACTER = 33;
    private static final int LAST_CHARACTER = 126;
    private static final String NAMES = "kgvfp";
    private static final String RELATIONS = "<=>";
    private static final int RELATION_COUNT = 3;

    // The steps of a filter: these, or a comparison at COMPARISON and above. The greater of two
    // operators binds tighter.
    private static final int OPEN = 0;
    private static final int OR = 1;
    private static final int AND = 2;
    private static final int NOT = 3;
    private static final int COMPARISON = 4;

    // What the reader of a filter text knows of the character that it reads next.
    private static final int FACTOR_IS_DUE = 0;
    private static final int FACTOR_IS_READ = 1;
    private static final int FAULT = 2;

    private static final int NO_FAULT = -1;

    private final Tables tables = new Tables();
    private final Tables planned = new Tables();
    private int changesInBatch = 0;
    private final History history = new History();
    private final Filter filter = new Filter();
    private final FilterReader reader = new FilterReader();
    private int fault = NO_FAULT;
    private final Watches watches = new Watches();
    private final Views views = new Views();

    private boolean isSaved = false;
    private final Tables savedTables = new Tables();
    private final Filter savedFilter = new Filter();
    private final Watches savedWatches = new Watches();

    public ViewMaintainer() {
    }

    public int insertLeft(int key, int group, int value)
            throws IllegalArgumentException, IllegalStateException {
        requireLeftRow(key, group, value);
        requireRoomInBatch();
        requireRoomInTable(planned.left);
        return planChange(planned.left, leftCode(key, group, value), 1);
    }

    public int deleteLeft(int key, int group, int value)
            throws IllegalArgumentException, IllegalStateException, NoSuchElementException {
        requireLeftRow(key, group, value);
        requireRoomInBatch();
        int code = leftCode(key, group, value);
        requireRowInTable(planned.left, code);
        return planChange(planned.left, code, -1);
    }

    public int insertRight(int key, int factor)
            throws IllegalArgumentException, IllegalStateException {
        requireRightRow(key, factor);
        requireRoomInBatch();
        requireRoomInTable(planned.right);
        return planChange(planned.right, rightCode(key, factor), 1);
    }

    public int deleteRight(int key, int factor)
            throws IllegalArgumentException, IllegalStateException, NoSuchElementException {
        requireRightRow(key, factor);
        requireRoomInBatch();
        int code = rightCode(key, factor);
        requireRowInTable(planned.right, code);
        return planChange(planned.right, code, -1);
    }

    public int batchSize() {
        return changesInBatch;
    }

    public int discard() {
        int discarded = changesInBatch;
        emptyBatch();
        return discarded;
    }

    public int apply() {
        history.push(tables);
        tables.copyFrom(planned);
        changesInBatch = 0;
        return views.follow(tables, filter);
    }

    public int rollback() throws IllegalStateException {
        if (history.isEmpty()) {
            throw new IllegalStateException("no call of apply to undo");
        }
        history.popInto(tables);
        emptyBatch();
        return views.follow(tables, filter);
    }

    public int leftCount(int key, int group, int value) throws IllegalArgumentException {
        requireLeftRow(key, group, value);
        return tables.left.countOf(leftCode(key, group, value));
    }

    public int rightCount(int key, int factor) throws IllegalArgumentException {
        requireRightRow(key, factor);
        return tables.right.countOf(rightCode(key, factor));
    }

    public int leftSize() {
        return tables.left.total();
    }

    public int rightSize() {
        return tables.right.total();
    }

    public int joinSize() {
        return views.join().total();
    }

    public int joinDistinct() {
        return views.join().size();
    }

    public int joinCount(int key, int group, int product) {
        boolean isPossible = isKey(key) && isGroup(group)
                && isWithin(product, -PRODUCT_LIMIT, PRODUCT_LIMIT);
        return isPossible ? views.join().countOf(joinCode(key, group, product)) : 0;
    }

    public int joinRow(int index, int column) throws IndexOutOfBoundsException {
        requireIndex(index, views.join().size());
        requireIndex(column, JOIN_COLUMNS);
        return joinColumn(views.join(), index, column);
    }

    public int danglingCount() {
        return views.dangling().total();
    }

    public int danglingRow(int index, int column) throws IndexOutOfBoundsException {
        requireIndex(index, views.dangling().total());
        requireIndex(column, DANGLING_COLUMNS);
        int code = views.dangling().codeOfOccurrence(index);
        switch (column) {
            case 0:
                return leftKey(code);
            case 1:
                return leftGroup(code);
            default:
                return leftValue(code);
        }
    }

    public int groupSize(int group) throws IndexOutOfBoundsException {
        requireIndex(group, GROUPS);
        return views.totals().sizeOf(group);
    }

    public int groupSum(int group) throws IndexOutOfBoundsException {
        requireIndex(group, GROUPS);
        return views.totals().sumOf(group);
    }

    public int groupMinimum(int group) throws IndexOutOfBoundsException, NoSuchElementException {
        requireIndex(group, GROUPS);
        requireRowsInGroup(group);
        return views.productOfOccurrence(group, 0);
    }

    public int groupMaximum(int group) throws IndexOutOfBoundsException, NoSuchElementException {
        requireIndex(group, GROUPS);
        requireRowsInGroup(group);
        return views.productOfOccurrence(group, views.totals().sizeOf(group) - 1);
    }

    public int groupDistinct(int group) throws IndexOutOfBoundsException {
        requireIndex(group, GROUPS);
        return views.differentProducts(group);
    }

    public int groupElement(int group, int index)
            throws IndexOutOfBoundsException, NoSuchElementException {
        requireIndex(group, GROUPS);
        if (index < 0 || index >= views.totals().sizeOf(group)) {
            throw new NoSuchElementException("no such index in the group");
        }
        return views.productOfOccurrence(group, index);
    }

    public double groupAverage(int group) throws IndexOutOfBoundsException, NoSuchElementException {
        requireIndex(group, GROUPS);
        requireRowsInGroup(group);
        double size = (double) views.totals().sizeOf(group);
        return size > 0.0 ? (double) views.totals().sumOf(group) / size : 0.0;
    }

    public int qualifiedGroups(int bound) {
        int qualified = 0;
        for (int group = 0; group < GROUPS; group++) {
            if (views.totals().reaches(group, bound)) {
                qualified |= 1 << group;
            }
        }
        return qualified;
    }

    public int rankedGroup(int rank) throws IndexOutOfBoundsException {
        int group = views.totals().groupOfRank(rank);
        if (group < 0) {
            throw new IndexOutOfBoundsException("no group of this rank");
        }
        return group;
    }

    public int changeCount() {
        return views.change().size();
    }

    public int changeRow(int index, int column) throws IndexOutOfBoundsException {
        requireIndex(index, views.change().size());
        requireIndex(column, JOIN_COLUMNS);
        return joinColumn(views.change(), index, column);
    }

    public int watch(int group, int bound) throws IndexOutOfBoundsException, IllegalStateException {
        requireIndex(group, GROUPS);
        if (watches.size() >= WATCH_LIMIT) {
            throw new IllegalStateException("there are 6 watches");
        }
        watches.append(group, bound);
        return watches.size() - 1;
    }

    public boolean isRaised(int watch) throws IndexOutOfBoundsException {
        requireIndex(watch, watches.size());
        return watches.isUp(watch, views.totals());
    }

    public int changedWatches() {
        int changed = 0;
        for (int watch = 0; watch < watches.size(); watch++) {
            boolean isUp = watches.isUp(watch, views.totals());
            boolean wasUp = watches.isUp(watch, views.oldTotals());
            if (isUp != wasUp) {
                changed |= 1 << watch;
            }
        }
        return changed;
    }

    public int clearWatches() {
        int removed = watches.size();
        watches.clear();
        return removed;
    }

    public int appendCharacter(int character)
            throws IllegalArgumentException, IllegalStateException {
        if (!isWithin(character, FIRST_CHARACTER, LAST_CHARACTER)) {
            throw new IllegalArgumentException("the character is not from 33 to 126");
        }
        if (reader.length() >= TEXT_LIMIT) {
            throw new IllegalStateException("the text has 40 characters");
        }
        reader.append((char) character);
        return reader.length();
    }

    public int setFilter() throws IllegalArgumentException {
        fault = reader.readText();
        reader.clear();
        if (fault != NO_FAULT) {
            throw new IllegalArgumentException("the text has a fault");
        }
        filter.copyFrom(reader.draft());
        views.startAnew(tables, filter);
        return views.join().total();
    }

    public int faultPosition() {
        return fault;
    }

    public void clearFilter() {
        filter.clear();
        views.startAnew(tables, filter);
    }

    public boolean accepts(int key, int group, int value, int factor)
            throws IllegalArgumentException {
        requireLeftRow(key, group, value);
        requireRightRow(key, factor);
        return filter.holds(key, group, value, factor);
    }

    public void save() {
        savedTables.copyFrom(tables);
        savedFilter.copyFrom(filter);
        savedWatches.copyFrom(watches);
        isSaved = true;
    }

    public void restore() throws IllegalStateException {
        if (!isSaved) {
            throw new IllegalStateException("nothing was saved");
        }
        tables.copyFrom(savedTables);
        filter.copyFrom(savedFilter);
        watches.copyFrom(savedWatches);
        emptyBatch();
        history.clear();
        views.startAnew(tables, filter);
    }

    private int planChange(CountedRows table, int code, int amount) {
        table.add(code, amount);
        changesInBatch++;
        return changesInBatch;
    }

    private void emptyBatch() {
        planned.copyFrom(tables);
        changesInBatch = 0;
    }

    private void requireRoomInBatch() {
        if (changesInBatch >= BATCH_LIMIT) {
            throw new IllegalStateException("the batch has 40 changes");
        }
    }

    private void requireRowsInGroup(int group) {
        if (views.totals().sizeOf(group) <= 0) {
            throw new NoSuchElementException("the group has no rows");
        }
    }

    private static void requireRoomInTable(CountedRows table) {
        if (table.total() >= TABLE_LIMIT) {
            throw new IllegalStateException("the planned table has 60 rows");
        }
    }

    private static void requireRowInTable(CountedRows table, int code) {
        if (table.countOf(code) <= 0) {
            throw new NoSuchElementException("the planned table does not contain the row");
        }
    }

    private static void requireLeftRow(int key, int group, int value) {
        if (!isKey(key) || !isGroup(group) || !isWithin(value, -VALUE_LIMIT, VALUE_LIMIT)) {
            throw new IllegalArgumentException("a number of the left row is out of range");
        }
    }

    private static void requireRightRow(int key, int factor) {
        if (!isKey(key) || !isWithin(factor, -FACTOR_LIMIT, FACTOR_LIMIT)) {
            throw new IllegalArgumentException("a number of the right row is out of range");
        }
    }

    private static void requireIndex(int index, int size) {
        if (index < 0 || index >= size) {
            throw new IndexOutOfBoundsException("no such row, column, group or watch");
        }
    }

    private static boolean isKey(int key) {
        return isWithin(key, 0, KEYS - 1);
    }

    private static boolean isGroup(int group) {
        return isWithin(group, 0, GROUPS - 1);
    }

    private static boolean isWithin(int number, int least, int greatest) {
        return number >= least && number <= greatest;
    }

    // A row is one number, its code, such that the order of the codes is the order of the rows.

    private static int leftCode(int key, int group, int value) {
        return (key * GROUPS + group) * VALUES + value + VALUE_LIMIT;
    }

    private static int leftKey(int code) {
        return code / VALUES / GROUPS;
    }

    private static int leftGroup(int code) {
        return code / VALUES % GROUPS;
    }

    private static int leftValue(int code) {
        return code % VALUES - VALUE_LIMIT;
    }

    private static int rightCode(int key, int factor) {
        return key * FACTORS + factor + FACTOR_LIMIT;
    }

    private static int rightFactor(int code) {
        return code % FACTORS - FACTOR_LIMIT;
    }

    private static int joinCode(int key, int group, int product) {
        return (key * GROUPS + group) * PRODUCTS + product + PRODUCT_LIMIT;
    }

    private static int joinKey(int code) {
        return code / PRODUCTS / GROUPS;
    }

    private static int joinGroup(int code) {
        return code / PRODUCTS % GROUPS;
    }

    private static int joinProduct(int code) {
        return code % PRODUCTS - PRODUCT_LIMIT;
    }

    private static int joinColumn(CountedRows rows, int index, int column) {
        int code = rows.codeAt(index);
        switch (column) {
            case 0:
                return joinKey(code);
            case 1:
                return joinGroup(code);
            case 2:
                return joinProduct(code);
            default:
                return rows.countAt(index);
        }
    }

    /** Different rows in the order of their codes, each with a count that is not 0. */
    private static final class CountedRows {
        // Greater than every code, so that a walk over two lists may look behind the shorter one.
        private static final int NO_CODE = 1000000;
        // Enough to halve the largest list down to one place.
        private static final int HALVINGS = 32;

        private final int[] codes;
        private final int[] counts;
        private int size = 0;
        private int total = 0;

        CountedRows(int limit) {
            int places = limit > 0 ? limit : 0;
            codes = new int[places];
            counts = new int[places];
        }

        int size() {
            return size;
        }

        int total() {
            return total;
        }

        int codeAt(int index) {
            return index >= 0 && index < size && index < codes.length ? codes[index] : NO_CODE;
        }

        int countAt(int index) {
            return index >= 0 && index < size && index < counts.length ? counts[index] : 0;
        }

        int countOf(int code) {
            int place = firstNotLess(code);
            return codeAt(place) == code ? countAt(place) : 0;
        }

        int codeOfOccurrence(int occurrence) {
            int passed = 0;
            for (int index = 0; index < size; index++) {
                passed += countAt(index);
                if (occurrence < passed) {
                    return codeAt(index);
                }
            }
            return NO_CODE;
        }

        int firstNotLess(int code) {
            int low = 0;
            int high = size;
            for (int halving = 0; halving < HALVINGS && low < high; halving++) {
                int middle = (low + high) / 2;
                if (codeAt(middle) < code) {
                    low = middle + 1;
                } else {
                    high = middle;
                }
            }
            return low;
        }

        void add(int code, int amount) {
            int place = firstNotLess(code);
            if (codeAt(place) != code) {
                openPlace(place, code);
            }
            if (codeAt(place) != code || place < 0 || place >= counts.length) {
                return;
            }
            counts[place] += amount;
            total += amount;
            if (counts[place] == 0) {
                closePlace(place);
            }
        }

        void append(int code, int count) {
            if (size >= 0 && size < codes.length && size < counts.length) {
                codes[size] = code;
                counts[size] = count;
                size++;
                total += count;
            }
        }

        void clear() {
            size = 0;
            total = 0;
        }

        void copyFrom(CountedRows other) {
            clear();
            for (int index = 0; index < other.size; index++) {
                append(other.codeAt(index), other.countAt(index));
            }
        }

        void becomeDifference(CountedRows minuend, CountedRows subtrahend) {
            clear();
            int plus = 0;
            int minus = 0;
            int turns = minuend.size + subtrahend.size;
            for (int turn = 0; turn < turns; turn++) {
                int code = Math.min(minuend.codeAt(plus), subtrahend.codeAt(minus));
                if (code == NO_CODE) {
                    return;
                }
                int difference = 0;
                if (minuend.codeAt(plus) == code) {
                    difference += minuend.countAt(plus);
                    plus++;
                }
                if (subtrahend.codeAt(minus) == code) {
                    difference -= subtrahend.countAt(minus);
                    minus++;
                }
                if (difference != 0) {
                    append(code, difference);
                }
            }
        }

        private void openPlace(int place, int code) {
            if (place >= 0 && place <= size && size < codes.length && size < counts.length) {
                System.arraycopy(codes, place, codes, place + 1, size - place);
                System.arraycopy(counts, place, counts, place + 1, size - place);
                codes[place] = code;
                counts[place] = 0;
                size++;
            }
        }

        private void closePlace(int place) {
            if (place >= 0 && place < size && size <= codes.length && size <= counts.length) {
                System.arraycopy(codes, place + 1, codes, place, size - place - 1);
                System.arraycopy(counts, place + 1, counts, place, size - place - 1);
                size--;
            }
        }
    }

    /** The two base tables at one time. */
    private static final class Tables {
        private final CountedRows left = new CountedRows(TABLE_LIMIT);
        private final CountedRows right = new CountedRows(TABLE_LIMIT);

        void copyFrom(Tables other) {
            left.copyFrom(other.left);
            right.copyFrom(other.right);
        }
    }

    /** The tables as they were before each of the latest calls of apply. */
    private static final class History {
        private final Tables[] kept = new Tables[UNDO_LIMIT];
        private int next = 0;
        private int depth = 0;

        History() {
            for (int index = 0; index < kept.length; index++) {
                kept[index] = new Tables();
            }
        }

        boolean isEmpty() {
            return depth <= 0;
        }

        void push(Tables tables) {
            Tables place = placeAt(next);
            if (place != null) {
                place.copyFrom(tables);
                next = (next + 1) % UNDO_LIMIT;
                depth = Math.min(depth + 1, UNDO_LIMIT);
            }
        }

        void popInto(Tables tables) {
            int latest = (next + UNDO_LIMIT - 1) % UNDO_LIMIT;
            Tables place = placeAt(latest);
            if (place != null && depth > 0) {
                tables.copyFrom(place);
                next = latest;
                depth--;
            }
        }

        void clear() {
            depth = 0;
        }

        private Tables placeAt(int index) {
            return index >= 0 && index < kept.length ? kept[index] : null;
        }
    }

    /** The join, the outer join and the groups, as they follow from the tables and the filter. */
    private static final class Views {
        private CountedRows join = new CountedRows(JOIN_LIMIT);
        private CountedRows oldJoin = new CountedRows(JOIN_LIMIT);
        private GroupTotals totals = new GroupTotals();
        private GroupTotals oldTotals = new GroupTotals();
        private final CountedRows change = new CountedRows(CHANGE_LIMIT);
        private final CountedRows dangling = new CountedRows(TABLE_LIMIT);
        private final int[] tally = new int[PRODUCTS];

        CountedRows join() {
            return join;
        }

        GroupTotals totals() {
            return totals;
        }

        /** The totals as they would be if the latest change was undone. */
        GroupTotals oldTotals() {
            return oldTotals;
        }

        CountedRows change() {
            return change;
        }

        CountedRows dangling() {
            return dangling;
        }

        /** Keeps what differs from the views before as the latest change. */
        int follow(Tables tables, Filter filter) {
            swapOldAndNew();
            rebuild(tables, filter);
            change.becomeDifference(join, oldJoin);
            return change.size();
        }

        /** Leaves an empty latest change. */
        void startAnew(Tables tables, Filter filter) {
            rebuild(tables, filter);
            change.clear();
            oldTotals.copyFrom(totals);
        }

        int productOfOccurrence(int group, int occurrence) {
            tallyProducts(group);
            int passed = 0;
            for (int place = 0; place < tally.length; place++) {
                passed += tally[place];
                if (occurrence < passed) {
                    return place - PRODUCT_LIMIT;
                }
            }
            return 0;
        }

        int differentProducts(int group) {
            tallyProducts(group);
            int different = 0;
            for (int place = 0; place < tally.length; place++) {
                if (tally[place] != 0) {
                    different++;
                }
            }
            return different;
        }

        private void tallyProducts(int group) {
            Arrays.fill(tally, 0);
            for (int index = 0; index < join.size(); index++) {
                int code = join.codeAt(index);
                int place = joinProduct(code) + PRODUCT_LIMIT;
                if (joinGroup(code) == group && place >= 0 && place < tally.length) {
                    tally[place] += join.countAt(index);
                }
            }
        }

        // The old ones are filled anew, so that no call needs rows of its own.
        private void swapOldAndNew() {
            CountedRows freeRows = oldJoin;
            oldJoin = join;
            join = freeRows;
            GroupTotals freeTotals = oldTotals;
            oldTotals = totals;
            totals = freeTotals;
        }

        private void rebuild(Tables tables, Filter filter) {
            join.clear();
            dangling.clear();
            for (int index = 0; index < tables.left.size(); index++) {
                int code = tables.left.codeAt(index);
                int count = tables.left.countAt(index);
                if (joinLeftRow(code, count, tables.right, filter) == 0) {
                    dangling.append(code, count);
                }
            }
            totals.sumUp(join);
        }

        /** Returns the number of pairs that match. */
        private int joinLeftRow(int code, int count, CountedRows right, Filter filter) {
            int key = leftKey(code);
            int group = leftGroup(code);
            int value = leftValue(code);
            int start = right.firstNotLess(rightCode(key, -FACTOR_LIMIT));
            int end = right.firstNotLess(rightCode(key + 1, -FACTOR_LIMIT));
            int pairs = 0;
            for (int index = start; index < end; index++) {
                int factor = rightFactor(right.codeAt(index));
                if (filter.holds(key, group, value, factor)) {
                    int multiplicity = count * right.countAt(index);
                    join.add(joinCode(key, group, value * factor), multiplicity);
                    pairs += multiplicity;
                }
            }
            return pairs;
        }
    }

    /** The number of rows and the sum of each group. */
    private static final class GroupTotals {
        private final int[] sizes = new int[GROUPS];
        private final int[] sums = new int[GROUPS];

        int sizeOf(int group) {
            return group >= 0 && group < sizes.length ? sizes[group] : 0;
        }

        int sumOf(int group) {
            return group >= 0 && group < sums.length ? sums[group] : 0;
        }

        boolean reaches(int group, int bound) {
            return sizeOf(group) > 0 && sumOf(group) >= bound;
        }

        /** Returns -1 if there is no group of this rank. */
        int groupOfRank(int rank) {
            for (int group = 0; group < GROUPS; group++) {
                if (sizeOf(group) > 0 && rankOf(group) == rank) {
                    return group;
                }
            }
            return -1;
        }

        void sumUp(CountedRows joinRows) {
            Arrays.fill(sizes, 0);
            Arrays.fill(sums, 0);
            for (int index = 0; index < joinRows.size(); index++) {
                int code = joinRows.codeAt(index);
                int group = joinGroup(code);
                if (group >= 0 && group < sizes.length && group < sums.length) {
                    sizes[group] += joinRows.countAt(index);
                    sums[group] += joinRows.countAt(index) * joinProduct(code);
                }
            }
        }

        void copyFrom(GroupTotals other) {
            for (int group = 0; group < sizes.length && group < sums.length; group++) {
                sizes[group] = other.sizeOf(group);
                sums[group] = other.sumOf(group);
            }
        }

        private int rankOf(int group) {
            int rank = 0;
            for (int other = 0; other < GROUPS; other++) {
                if (sizeOf(other) > 0 && standsBefore(other, group)) {
                    rank++;
                }
            }
            return rank;
        }

        private boolean standsBefore(int other, int group) {
            return sumOf(other) > sumOf(group) || sumOf(other) == sumOf(group) && other < group;
        }
    }

    /** Bounds for the sums of groups. */
    private static final class Watches {
        private final int[] groups = new int[WATCH_LIMIT];
        private final int[] bounds = new int[WATCH_LIMIT];
        private int size = 0;

        int size() {
            return size;
        }

        boolean isUp(int index, GroupTotals totals) {
            return isFilled(index) && totals.reaches(groups[index], bounds[index]);
        }

        void append(int group, int bound) {
            if (size >= 0 && size < groups.length && size < bounds.length) {
                groups[size] = group;
                bounds[size] = bound;
                size++;
            }
        }

        void clear() {
            size = 0;
        }

        void copyFrom(Watches other) {
            clear();
            for (int index = 0; index < other.size; index++) {
                if (other.isFilled(index)) {
                    append(other.groups[index], other.bounds[index]);
                }
            }
        }

        private boolean isFilled(int index) {
            return index >= 0 && index < size && index < groups.length && index < bounds.length;
        }
    }

    /** A condition as a list of steps, operands before their operator; without steps it holds. */
    private static final class Filter {
        private final int[] steps = new int[TEXT_LIMIT];
        private final int[] numbers = new int[TEXT_LIMIT];
        private int size = 0;

        void append(int step, int number) {
            if (size >= 0 && size < steps.length && size < numbers.length) {
                steps[size] = step;
                numbers[size] = number;
                size++;
            }
        }

        void clear() {
            size = 0;
        }

        void copyFrom(Filter other) {
            clear();
            for (int index = 0; index < other.size; index++) {
                if (other.isFilled(index)) {
                    append(other.steps[index], other.numbers[index]);
                }
            }
        }

        boolean holds(int key, int group, int value, int factor) {
            // A stack of truths, the top in the lowest bit: a text has at most ten comparisons.
            int truths = size == 0 ? 1 : 0;
            for (int index = 0; index < size; index++) {
                if (!isFilled(index)) {
                    return false;
                }
                int step = steps[index];
                if (step >= COMPARISON) {
                    int operand = operandOf(nameOf(step), key, group, value, factor);
                    truths = truths << 1 | compare(operand, relationOf(step), numbers[index]);
                } else if (step == NOT) {
                    truths ^= 1;
                } else {
                    int top = truths & 1;
                    truths >>>= 1;
                    truths = step == AND ? truths & (top | ~1) : truths | top;
                }
            }
            return (truths & 1) == 1;
        }

        private boolean isFilled(int index) {
            return index >= 0 && index < size && index < steps.length && index < numbers.length;
        }

        static int comparisonStep(int name, int relation) {
            return COMPARISON + name * RELATION_COUNT + relation;
        }

        private static int nameOf(int step) {
            return (step - COMPARISON) / RELATION_COUNT;
        }

        private static int relationOf(int step) {
            return (step - COMPARISON) % RELATION_COUNT;
        }

        private static int operandOf(int name, int key, int group, int value, int factor) {
            switch (name) {
                case 0:
                    return key;
                case 1:
                    return group;
                case 2:
                    return value;
                case 3:
                    return factor;
                default:
                    return value * factor;
            }
        }

        private static int compare(int operand, int relation, int number) {
            switch (relation) {
                case 0:
                    return operand < number ? 1 : 0;
                case 1:
                    return operand == number ? 1 : 0;
                default:
                    return operand > number ? 1 : 0;
            }
        }
    }

    /** Holds the text and turns it into the steps of a filter. */
    private static final class FilterReader {
        private final char[] text = new char[TEXT_LIMIT];
        private int length = 0;
        private int position = 0;
        // Operators and open parentheses whose right operand or end is not read yet.
        private final int[] waiting = new int[TEXT_LIMIT];
        private int waitingSize = 0;
        private int openParentheses = 0;
        private final Filter draft = new Filter();

        int length() {
            return length;
        }

        /** The filter that was read last, if the text had no fault. */
        Filter draft() {
            return draft;
        }

        void append(char character) {
            if (length >= 0 && length < text.length) {
                text[length] = character;
                length++;
            }
        }

        void clear() {
            length = 0;
        }

        /** Returns the fault position, or NO_FAULT. */
        int readText() {
            position = 0;
            waitingSize = 0;
            openParentheses = 0;
            draft.clear();
            int state = FACTOR_IS_DUE;
            for (int turn = 0; turn < TEXT_LIMIT && position < length && state != FAULT; turn++) {
                state = state == FACTOR_IS_DUE ? readFactor() : readBehindFactor();
            }
            if (state != FACTOR_IS_READ || openParentheses > 0) {
                return position;
            }
            moveWaiting(OR);
            return NO_FAULT;
        }

        private int readFactor() {
            char character = characterAt(position);
            if (character == '!') {
                holdBack(NOT);
                return FACTOR_IS_DUE;
            }
            if (character == '(') {
                holdBack(OPEN);
                openParentheses++;
                return FACTOR_IS_DUE;
            }
            return readComparison() ? FACTOR_IS_READ : FAULT;
        }

        private int readBehindFactor() {
            char character = characterAt(position);
            if (character == '&') {
                moveWaiting(AND);
                holdBack(AND);
                return FACTOR_IS_DUE;
            }
            if (character == '|') {
                moveWaiting(OR);
                holdBack(OR);
                return FACTOR_IS_DUE;
            }
            return character == ')' && openParentheses > 0 ? readClosing() : FAULT;
        }

        private int readClosing() {
            moveWaiting(OR);
            waitingSize--;
            openParentheses--;
            position++;
            return FACTOR_IS_READ;
        }

        private boolean readComparison() {
            int name = NAMES.indexOf(characterAt(position));
            if (name < 0) {
                return false;
            }
            position++;
            int relation = RELATIONS.indexOf(characterAt(position));
            if (relation < 0) {
                return false;
            }
            position++;
            boolean isNegative = characterAt(position) == '-';
            if (isNegative) {
                position++;
            }
            if (!isDigit(characterAt(position))) {
                return false;
            }
            int number = readDigits();
            draft.append(Filter.comparisonStep(name, relation), isNegative ? -number : number);
            return true;
        }

        private int readDigits() {
            int number = 0;
            for (int digits = 0; digits < DIGIT_LIMIT && isDigit(characterAt(position)); digits++) {
                number = number * 10 + (characterAt(position) - '0');
                position++;
            }
            return number;
        }

        private void holdBack(int operator) {
            if (waitingSize >= 0 && waitingSize < waiting.length) {
                waiting[waitingSize] = operator;
                waitingSize++;
            }
            position++;
        }

        /** Moves the operators that bind as tight as one or tighter, down to a parenthesis. */
        private void moveWaiting(int operator) {
            for (int index = waitingSize - 1; index >= 0 && index < waiting.length; index--) {
                if (waiting[index] < operator) {
                    return;
                }
                draft.append(waiting[index], 0);
                waitingSize = index;
            }
        }

        /** A character that stands in no filter text where the text has ended. */
        private char characterAt(int index) {
            return index >= 0 && index < length && index < text.length ? text[index] : (char) 0;
        }

        private static boolean isDigit(char character) {
            return character >= '0' && character <= '9';
        }
    }
}
