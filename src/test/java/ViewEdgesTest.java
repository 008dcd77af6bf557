/** Promises 14 to 30 and what "Description" says of the views, where a sentence names an edge. */
public final class ViewEdgesTest {
    private static final String[] OF_A_GROUP = {"groupSize", "groupSum", "groupMinimum", "groupMaximum",
        "groupDistinct", "groupAverage"};
    // No two products of these with factors from -9 to 9 are equal but for 0.
    private static final int[] PRIMES = {-97, -89, -83, -79, -73, 71, 67, 61, 59, 53};

    public static void main(String[] args) {
        multiplicity();
        joinOrder();
        joinSize();
        joinDistinct();
        joinOfMostRows();
        joinCount();
        joinCountOfAnyNumber();
        joinRowColumns();
        joinRowIndex();
        danglingRows();
        danglingOrder();
        danglingCount();
        danglingRowIndex();
        rowsOfAGroup();
        noSuchGroup();
        groupWithoutRows();
        groupThatGetsEmpty();
        groupSums();
        groupMinimumAndMaximum();
        groupDistinct();
        groupElement();
        groupElementIndex();
        groupAverage();
        qualifiedGroups();
        qualifiedGroupsOfFarBounds();
        rankedGroup();
        rankedGroupOfEqualSums();
        rankOutOfRange();
        changesOfMultiplicity();
        changeOrder();
        changeIsEmptyAtFirst();
        changeIsEmptyAfterSuccess();
        changeOfMostRows();
        changeRowIndex();
        Subject.finish();
    }

    private static void multiplicity() {
        Subject.about("The multiplicity of a row is the number of pairs that give it.");
        Subject x = new Subject().make("insertLeft(1, 1, 6)", "insertRight(1, 2)").due("apply()", 1);
        Subject.same("one pair", x.joinRows(), "1,1,12*1");
        x.make("insertLeft(1, 1, 4)", "insertRight(1, 3)").due("apply()", 3);
        Subject.same("two pairs of other numbers", x.joinRows(), "1,1,8*1 1,1,12*2 1,1,18*1");
        x.make("insertLeft(1, 1, -6)", "insertRight(1, -2)", "insertLeft(1, 1, 6)", "insertLeft(1, 2, 6)",
                "insertLeft(2, 1, 6)", "insertRight(2, 2)").make("apply()");
        x.due("joinCount(1, 1, 12)", 4).due("joinCount(1, 2, 12)", 1).due("joinCount(2, 1, 12)", 1);
        Subject zero = new Subject().times(3, "insertLeft(0, 0, 0)").make("insertLeft(0, 0, 99)", "insertRight(0, 9)",
                "insertRight(0, -9)", "insertRight(0, 0)", "apply()");
        Subject.same("pairs that give 0", zero.joinRows(), "0,0,-891*1 0,0,0*10 0,0,891*1");
    }

    private static void joinOrder() {
        Subject.about("The rows of the join are ordered by key, then by group, then by product; a row with a greater "
                + "multiplicity stands in this order only once.");
        Subject x = new Subject().make("insertLeft(9, 0, -99)", "insertLeft(0, 5, 99)", "insertLeft(0, 5, -99)",
                "insertLeft(0, 0, 99)", "insertLeft(9, 5, 1)", "insertLeft(9, 0, 99)", "insertLeft(1, 0, -99)",
                "insertLeft(0, 5, 99)", "insertRight(9, 9)", "insertRight(1, 9)", "insertRight(0, 9)", "apply()");
        Subject.same("the rows", x.joinRows(),
                "0,0,891*1 0,5,-891*1 0,5,891*2 1,0,-891*1 9,0,-891*1 9,0,891*1 9,5,9*1");
        x.make("insertRight(0, -9)", "insertRight(0, 0)").due("apply()", 5);
        Subject.same("the rows", x.joinRows(), "0,0,-891*1 0,0,0*1 0,0,891*1 0,5,-891*3 0,5,0*3 0,5,891*3 "
                + "1,0,-891*1 9,0,-891*1 9,0,891*1 9,5,9*1");
    }

    /** Tables of 60 equal rows each. */
    private static Subject fullOfOnePair(int value, int factor) {
        Subject x = new Subject();
        String left = Subject.call("insertLeft", 9, 5, value);
        String right = Subject.call("insertRight", 9, factor);
        x.times(40, left).make("apply()").times(20, left).times(20, right).make("apply()");
        return x.times(40, right).make("apply()");
    }

    private static void joinSize() {
        Subject.about("joinSize returns the sum of the multiplicities of all rows of the join.");
        Subject x = new Subject().due("joinSize()", 0).make("insertLeft(0, 0, 1)", "apply()").due("joinSize()", 0);
        x.make("insertRight(0, 1)", "apply()").due("joinSize()", 1).make("insertRight(0, 1)", "apply()");
        x.due("joinSize()", 2).make("insertRight(0, 2)", "insertLeft(0, 1, 5)", "apply()").due("joinSize()", 6);
        x.make("deleteLeft(0, 0, 1)", "deleteLeft(0, 1, 5)", "apply()").due("joinSize()", 0);
        fullOfOnePair(-99, 9).due("leftSize()", 60).due("rightSize()", 60).due("joinSize()", 3600);
    }

    private static void joinDistinct() {
        Subject.about("joinDistinct returns the number of different rows of the join.");
        Subject x = new Subject().due("joinDistinct()", 0).make("insertLeft(0, 0, 1)", "apply()").due("joinDistinct()", 0);
        x.make("insertRight(0, 1)", "insertRight(0, 1)", "apply()").due("joinDistinct()", 1);
        x.make("insertRight(0, 2)", "apply()").due("joinDistinct()", 2);
        x.make("insertLeft(0, 1, 1)", "apply()").due("joinDistinct()", 4);
        x.make("deleteRight(0, 1)", "apply()").due("joinDistinct()", 4);
        x.make("deleteRight(0, 1)", "apply()").due("joinDistinct()", 2);
        fullOfOnePair(99, -9).due("joinDistinct()", 1).due("joinRow(0, 3)", 3600).due("joinCount(9, 5, -891)", 3600);
    }

    /** 60 rows of the left table under one key that meet all 19 factors. */
    private static Subject mostRows() {
        Subject x = new Subject();
        for (int i = 0; i < 60; i++) {
            x.make(Subject.call("insertLeft", 7, i % 6, PRIMES[i / 6]));
            if (i == 29) {
                x.make("apply()");
            }
        }
        x.make("apply()");
        for (int factor = -9; factor <= 9; factor++) {
            x.make(Subject.call("insertRight", 7, factor));
        }
        return x;
    }

    private static void joinOfMostRows() {
        Subject.about("joinDistinct returns the number of different rows of the join: with as many as there can be");
        Subject x = mostRows().due("apply()", 6 * 181).due("joinDistinct()", 6 * 181).due("joinSize()", 60 * 19);
        x.due("joinRow(0, 0)", 7).due("joinRow(0, 1)", 0).due("joinRow(0, 2)", -873).due("joinRow(0, 3)", 1);
        x.due("joinRow(90, 2)", 0).due("joinRow(90, 3)", 10).due("joinRow(180, 2)", 873).due("joinRow(180, 1)", 0);
        x.due("joinRow(181, 1)", 1).due("joinRow(181, 2)", -873).due("joinRow(1085, 1)", 5);
        x.due("joinRow(1085, 2)", 873).due("joinRow(1086, 0)", Subject.INDEX).due("groupDistinct(5)", 181);
        x.due("groupSize(5)", 190).due("groupElement(5, 189)", 873).due("groupElement(5, 190)", Subject.ELEMENT);
        x.due("changeRow(1085, 3)", 1).due("changeRow(1086, 0)", Subject.INDEX).due("danglingCount()", 0);
        for (int group = 0; group <= 5; group++) {
            x.due(Subject.call("joinCount", 7, group, -97 * 9), 1).due(Subject.call("joinCount", 7, group, 0), 10);
        }
        for (int i = 0; i < 90; i++) {
            int here = Integer.parseInt(x.answer(Subject.call("joinRow", i * 12, 2)));
            int next = Integer.parseInt(x.answer(Subject.call("joinRow", i * 12 + 1, 2)));
            Subject.same("row " + i * 12 + " before its follower", here < next || here == 873, true);
        }
    }

    private static void joinCount() {
        Subject.about("Returns the multiplicity of a row of the join. ... 0 if there is no such row.");
        Subject x = new Subject().times(2, "insertLeft(4, 3, 5)").times(3, "insertRight(4, 2)").make("apply()");
        x.due("joinCount(4, 3, 10)", 6).due("joinCount(4, 3, 9)", 0).due("joinCount(4, 3, 11)", 0);
        x.due("joinCount(4, 2, 10)", 0).due("joinCount(4, 4, 10)", 0).due("joinCount(3, 3, 10)", 0);
        x.due("joinCount(5, 3, 10)", 0).due("joinCount(4, 3, -10)", 0);
        x.filter("f>2").due("joinCount(4, 3, 10)", 0).make("clearFilter()").due("joinCount(4, 3, 10)", 6);
        Subject y = new Subject().make("insertLeft(0, 0, 99)", "insertLeft(9, 5, 99)", "insertRight(0, -9)",
                "insertRight(9, 9)", "apply()");
        y.due("joinCount(0, 0, -891)", 1).due("joinCount(9, 5, 891)", 1).due("joinCount(0, 0, -890)", 0);
        y.due("joinCount(9, 5, 890)", 0);
    }

    private static void joinCountOfAnyNumber() {
        Subject.about("joinCount: the key, the group, the product, any number");
        Subject x = new Subject().make("insertLeft(0, 0, 99)", "insertLeft(9, 5, 99)", "insertLeft(0, 0, 0)",
                "insertLeft(5, 0, 0)", "insertLeft(5, 3, 0)", "insertRight(0, -9)", "insertRight(9, 9)",
                "insertRight(5, 0)", "apply()");
        int[] far = {Subject.LOW, Subject.LOW + 1, -65536, -1783, -893, -892, 892, 893, 1783, 65536, 1 << 30,
            Subject.HIGH - 1, Subject.HIGH};
        for (int any : far) {
            x.due(Subject.call("joinCount", any, 0, 0), 0).due(Subject.call("joinCount", 0, any, 0), 0);
            x.due(Subject.call("joinCount", 0, 0, any), 0).due(Subject.call("joinCount", any, any, any), 0);
        }
        x.due("joinCount(-1, 0, 0)", 0).due("joinCount(10, 0, 0)", 0);
        x.due("joinCount(5, -1, 0)", 0).due("joinCount(5, 6, 0)", 0);
        // Another place that a row would have if one column ran over into the next.
        x.due("joinCount(4, 6, 0)", 0).due("joinCount(6, -6, 0)", 0).due("joinCount(5, 2, 1783)", 0);
        x.due("joinCount(5, 4, -1783)", 0).due("joinCount(10, -6, 0)", 0).due("joinCount(-1, 6, 0)", 0);
        x.due("joinCount(9, 6, -892)", 0).due("joinCount(0, -1, 892)", 0);
        // The same with a wrap-around: 65536 * 65536 is 0 in 32 bits.
        x.due("joinCount(1073741824, 0, 0)", 0).due("joinCount(-2147483648, 0, 0)", 0);
        x.due("joinCount(5, 1073741827, 0)", 0).due("joinCount(-2147483643, 3, 0)", 0);
        x.due("joinCount(5, 3, 0)", 1).due("joinCount(0, 0, 0)", 1);
    }

    private static void joinRowColumns() {
        Subject.about("joinRow: 0 for the key, 1 for the group, 2 for the product, 3 for the multiplicity");
        Subject x = new Subject().times(4, "insertLeft(9, 5, -99)").make("insertRight(9, 9)", "apply()");
        x.due("joinRow(0, 0)", 9).due("joinRow(0, 1)", 5).due("joinRow(0, 2)", -891).due("joinRow(0, 3)", 4);
        x.due("joinRow(0, -1)", Subject.INDEX).due("joinRow(0, 4)", Subject.INDEX);
    }

    private static void joinRowIndex() {
        Subject.about("joinRow throws IndexOutOfBoundsException if there is no such row or column");
        Subject x = new Subject();
        for (int column = -1; column <= 4; column++) {
            x.due(Subject.call("joinRow", 0, column), Subject.INDEX).due(Subject.call("joinRow", -1, column), Subject.INDEX);
        }
        x.times(5, "insertLeft(0, 0, 1)").make("insertRight(0, 1)", "insertRight(0, 2)", "insertRight(0, 3)", "apply()");
        x.due("joinSize()", 15).range(Subject.INDEX, 0, 0, 2, "joinRow", 0, 0);
        x.range(Subject.INDEX, 1, 0, 3, "joinRow", 2, 0);
        x.due("joinRow(3, 4)", Subject.INDEX).due("joinRow(-1, 0)", Subject.INDEX).due("joinRow(2, 2)", 3);
        x.make("deleteRight(0, 3)", "apply()").due("joinRow(1, 2)", 2).due("joinRow(2, 2)", Subject.INDEX);
        x.filter("k=9").due("joinRow(0, 0)", Subject.INDEX).make("clearFilter()").due("joinRow(0, 0)", 0);
    }

    private static void danglingRows() {
        Subject.about("A row of the left table is dangling if it matches no row of the right table.");
        Subject x = new Subject().make("insertLeft(5, 0, 7)").due("apply()", 0).due("danglingCount()", 1);
        x.make("insertRight(4, 1)", "insertRight(6, 1)", "apply()").due("danglingCount()", 1);
        x.make("insertRight(5, 0)", "apply()").due("danglingCount()", 0).due("joinCount(5, 0, 0)", 1);
        x.filter("!f=0").due("danglingCount()", 1).make("insertRight(5, 1)", "apply()").due("danglingCount()", 0);
        x.filter("v<7").due("danglingCount()", 1).make("clearFilter()").due("danglingCount()", 0);
        x.make("deleteRight(5, 0)", "apply()").due("danglingCount()", 0);
        x.make("deleteRight(5, 1)", "apply()").due("danglingCount()", 1);
        x.make("deleteLeft(5, 0, 7)", "apply()").due("danglingCount()", 0).due("rightSize()", 2);
    }

    private static void danglingOrder() {
        Subject.about("The dangling rows are ordered by key, then by group, then by value; equal rows stand side by side.");
        Subject x = new Subject().make("insertLeft(9, 0, 0)", "insertLeft(0, 5, -99)", "insertLeft(0, 0, 99)",
                "insertLeft(0, 5, 99)", "insertLeft(0, 0, -99)", "insertLeft(9, 5, -1)", "insertLeft(0, 5, -99)",
                "insertLeft(1, 0, -99)", "insertLeft(9, 5, 1)", "insertLeft(0, 5, -99)", "insertLeft(9, 5, 0)", "apply()");
        Subject.same("the rows", x.danglingRows(), "0,0,-99 0,0,99 0,5,-99 0,5,-99 0,5,-99 0,5,99 1,0,-99 9,0,0 "
                + "9,5,-1 9,5,0 9,5,1");
        x.make("insertRight(0, 1)", "apply()").filter("v>-99");
        Subject.same("the rows", x.danglingRows(), "0,0,-99 0,5,-99 0,5,-99 0,5,-99 1,0,-99 9,0,0 9,5,-1 9,5,0 9,5,1");
    }

    private static void danglingCount() {
        Subject.about("danglingCount returns 0 to 60.");
        Subject x = new Subject().due("danglingCount()", 0);
        for (int i = 1; i <= 60; i++) {
            x.make(Subject.call("insertLeft", i % 10, i % 6, i), "apply()").due("danglingCount()", i);
        }
        x.due("danglingRow(59, 0)", 9).due("danglingRow(60, 0)", Subject.INDEX);
        for (int key = 0; key <= 9; key++) {
            x.make(Subject.call("insertRight", key, 0), "apply()").due("danglingCount()", 54 - 6 * key);
        }
        x.filter("k>9").due("danglingCount()", 60);
    }

    private static void danglingRowIndex() {
        Subject.about("danglingRow throws IndexOutOfBoundsException if there is no such row or column");
        Subject x = new Subject();
        for (int column = -1; column <= 3; column++) {
            x.due(Subject.call("danglingRow", 0, column), Subject.INDEX);
        }
        x.times(3, "insertLeft(8, 4, -5)").make("insertLeft(9, 5, 99)", "apply()");
        x.range(Subject.INDEX, 0, 0, 3, "danglingRow", 0, 0).range(Subject.INDEX, 1, 0, 2, "danglingRow", 3, 0);
        x.due("danglingRow(2, 0)", 8).due("danglingRow(2, 1)", 4).due("danglingRow(2, 2)", -5);
        x.due("danglingRow(3, 0)", 9).due("danglingRow(3, 1)", 5).due("danglingRow(3, 2)", 99);
        x.due("danglingRow(3, 3)", Subject.INDEX).due("danglingRow(4, 2)", Subject.INDEX);
        x.make("insertRight(8, 1)", "apply()").due("danglingRow(0, 2)", 99).due("danglingRow(1, 2)", Subject.INDEX);
    }

    private static void rowsOfAGroup() {
        Subject.about("The rows of a group are all rows of the join with this group, each one as often as its "
                + "multiplicity tells.");
        Subject x = new Subject().times(2, "insertLeft(0, 5, 3)").make("insertLeft(9, 5, 3)", "insertLeft(9, 4, 3)",
                "insertLeft(8, 5, 90)").times(3, "insertRight(0, 2)").make("insertRight(9, 2)", "apply()");
        x.due("groupSize(5)", 7).due("groupSize(4)", 1).due("groupSize(0)", 0).due("groupSum(5)", 42);
        x.due("groupDistinct(5)", 1).due("joinDistinct()", 3).due("groupAverage(5)", 6.0).due("groupElement(5, 6)", 6);
        x.due("groupElement(5, 7)", Subject.ELEMENT);
        fullOfOnePair(-99, 9).due("groupSize(5)", 3600).due("groupSize(4)", 0);
    }

    private static void noSuchGroup() {
        Subject.about("Throws IndexOutOfBoundsException if there is no such group");
        Subject x = new Subject();
        for (int group = 0; group <= 5; group++) {
            x.make(Subject.call("insertLeft", group, group, group + 10), Subject.call("insertRight", group, 1));
        }
        x.make("apply()");
        for (String name : OF_A_GROUP) {
            x.range(Subject.INDEX, 0, 0, 5, name, 0);
            x.due(name + "(5)", name.equals("groupSize") || name.equals("groupDistinct") ? 1
                    : name.equals("groupAverage") ? (Object) 15.0 : 15);
        }
        x.range(Subject.INDEX, 0, 0, 5, "groupElement", 0, 0);
        x.due("groupElement(-1, 1)", Subject.INDEX).due("groupElement(6, -1)", Subject.INDEX);
    }

    private static void groupWithoutRows() {
        Subject.about("Throws NoSuchElementException if the group has no rows");
        for (int group = 0; group <= 5; group++) {
            Subject x = new Subject().make(Subject.call("insertLeft", 0, group, -4), "apply()");
            for (String name : new String[] {"groupMinimum", "groupMaximum", "groupAverage"}) {
                x.due(Subject.call(name, group), Subject.ELEMENT);
            }
            x.make("insertRight(0, 2)", "apply()").due(Subject.call("groupMinimum", group), -8);
            x.due(Subject.call("groupMaximum", group), -8).due(Subject.call("groupAverage", group), -8.0);
            for (int other = 0; other <= 5; other++) {
                if (other != group) {
                    x.due(Subject.call("groupMinimum", other), Subject.ELEMENT);
                    x.due(Subject.call("groupMaximum", other), Subject.ELEMENT);
                    x.due(Subject.call("groupAverage", other), Subject.ELEMENT);
                    x.due(Subject.call("groupElement", other, 0), Subject.ELEMENT);
                    x.due(Subject.call("groupSum", other), 0).due(Subject.call("groupSize", other), 0);
                    x.due(Subject.call("groupDistinct", other), 0);
                }
            }
        }
    }

    private static void groupThatGetsEmpty() {
        Subject.about("Returns the sum, 0 if the group has no rows.");
        Subject x = new Subject().due("groupSum(3)", 0).make("insertLeft(0, 3, 7)", "insertRight(0, 7)", "apply()");
        x.due("groupSum(3)", 49).filter("v<7").due("groupSum(3)", 0).due("groupMinimum(3)", Subject.ELEMENT);
        x.make("clearFilter()", "deleteRight(0, 7)").due("groupSum(3)", 49).make("apply()").due("groupSum(3)", 0);
        x.due("groupSize(3)", 0).due("groupMaximum(3)", Subject.ELEMENT).due("groupAverage(3)", Subject.ELEMENT);
        x.make("rollback()").due("groupSum(3)", 49).due("groupMaximum(3)", 49);
    }

    private static void groupSums() {
        Subject.about("The sum, the minimum, the maximum and the average of a group are those of the products of its rows.");
        fullOfOnePair(99, 9).due("groupSum(5)", 3207600).due("groupAverage(5)", 891.0).due("groupMinimum(5)", 891);
        fullOfOnePair(-99, 9).due("groupSum(5)", -3207600).due("groupAverage(5)", -891.0).due("groupMaximum(5)", -891);
        Subject x = new Subject().make("insertLeft(0, 1, 5)", "insertLeft(0, 1, -5)", "insertRight(0, 3)", "apply()");
        x.due("groupSum(1)", 0).due("groupSize(1)", 2).due("groupAverage(1)", 0.0).due("groupMinimum(1)", -15);
        x.due("groupMaximum(1)", 15);
    }

    private static void groupMinimumAndMaximum() {
        Subject.about("Returns the minimum of a group. Returns the maximum of a group.");
        Subject x = new Subject().make("insertLeft(0, 0, 99)", "insertRight(0, -9)", "apply()");
        x.due("groupMinimum(0)", -891).due("groupMaximum(0)", -891).make("insertLeft(9, 0, 99)", "insertRight(9, 9)");
        x.make("apply()").due("groupMinimum(0)", -891).due("groupMaximum(0)", 891);
        x.make("deleteRight(0, -9)", "apply()").due("groupMinimum(0)", 891).due("groupMaximum(0)", 891);
        x.make("insertLeft(5, 0, 0)", "insertRight(5, 0)", "apply()").due("groupMinimum(0)", 0);
        x.make("deleteRight(9, 9)", "apply()").due("groupMinimum(0)", 0).due("groupMaximum(0)", 0);
    }

    private static void groupDistinct() {
        Subject.about("Returns the number of different products in the rows of a group.");
        Subject x = new Subject().due("groupDistinct(2)", 0).make("insertLeft(0, 2, 6)", "insertRight(0, 2)", "apply()");
        x.due("groupDistinct(2)", 1).make("insertLeft(9, 2, 4)", "insertRight(9, 3)", "apply()");
        x.due("groupDistinct(2)", 1).due("joinDistinct()", 2).due("groupSize(2)", 2);
        x.make("insertRight(9, -3)", "apply()").due("groupDistinct(2)", 2).make("insertRight(0, -2)", "apply()");
        x.due("groupDistinct(2)", 2).make("insertLeft(0, 2, 0)", "insertLeft(9, 2, 0)", "apply()");
        x.due("groupDistinct(2)", 3).due("groupDistinct(1)", 0).due("groupDistinct(3)", 0);
        Subject ends = new Subject().make("insertLeft(0, 2, 99)", "insertRight(0, 9)", "apply()").due("groupDistinct(2)", 1);
        ends.make("insertRight(0, -9)", "apply()").due("groupDistinct(2)", 2);
        ends.make("deleteRight(0, 9)", "apply()").due("groupDistinct(2)", 1).due("groupElement(2, 0)", -891);
    }

    private static void groupElement() {
        Subject.about("one of the products of the rows of a group, sorted in ascending order, in which each product "
                + "stands as often as there are rows with it.");
        Subject x = new Subject().make("insertLeft(9, 4, -99)", "insertLeft(0, 4, 99)", "insertLeft(5, 4, 1)",
                "insertLeft(0, 3, 50)").times(2, "insertRight(9, 9)").make("insertRight(0, 9)").times(2, "insertRight(5, -1)")
                .make("insertRight(5, 0)", "apply()");
        int[] sorted = {-891, -891, -1, -1, 0, 891};
        for (int i = 0; i < sorted.length; i++) {
            x.due(Subject.call("groupElement", 4, i), sorted[i]);
        }
        x.due("groupElement(4, 6)", Subject.ELEMENT).due("groupElement(3, 0)", 450).due("groupElement(3, 1)", Subject.ELEMENT);
    }

    private static void groupElementIndex() {
        Subject.about("groupElement throws NoSuchElementException if there is no such index");
        Subject x = new Subject().due("groupElement(0, 0)", Subject.ELEMENT).times(2, "insertLeft(0, 0, 1)");
        x.make("insertRight(0, 1)", "insertRight(0, 2)", "apply()").range(Subject.ELEMENT, 1, 0, 3, "groupElement", 0, 0);
        x.range(Subject.INDEX, 0, 0, 5, "groupElement", 0, -1);
        Subject full = fullOfOnePair(99, 9).due("groupElement(5, 0)", 891).due("groupElement(5, 3599)", 891);
        full.due("groupElement(5, 3600)", Subject.ELEMENT).due("groupElement(5, -1)", Subject.ELEMENT);
    }

    private static void groupAverage() {
        Subject.about("the average of a group: the sum divided by the number of rows, both converted to double.");
        Subject x = new Subject().make("insertLeft(0, 0, 1)", "insertRight(0, 1)", "apply()").due("groupAverage(0)", 1.0);
        x.make("insertRight(0, 0)", "apply()").due("groupAverage(0)", 0.5);
        x.make("insertRight(0, 0)", "apply()").due("groupAverage(0)", 1.0 / 3.0);
        x.make("insertRight(0, -3)", "apply()").due("groupAverage(0)", -0.5);
        x.make("insertRight(0, -9)", "insertRight(0, -9)", "insertRight(0, -9)", "apply()");
        x.due("groupAverage(0)", -29.0 / 7.0).filter("f=0").due("groupAverage(0)", 0.0);
        x.filter("f>0").due("groupAverage(0)", 1.0);
    }

    private static void qualifiedGroups() {
        Subject.about("Returns the groups that have at least one row and a sum that is not less than a bound.");
        Subject x = new Subject().due("qualifiedGroups(0)", 0).due("qualifiedGroups(-1)", 0);
        for (int group = 0; group <= 5; group++) {
            x.make(Subject.call("insertLeft", 0, group, 10 * group - 20));
        }
        x.make("insertLeft(1, 0, 99)", "apply()").due("qualifiedGroups(-21)", 0);
        x.make("insertRight(0, 1)", "apply()");
        int set = 63;
        for (int group = 0; group <= 5; group++) {
            x.due(Subject.call("qualifiedGroups", 10 * group - 21), set);
            x.due(Subject.call("qualifiedGroups", 10 * group - 20), set);
            set -= 1 << group;
            x.due(Subject.call("qualifiedGroups", 10 * group - 19), set);
        }
        x.filter("g=2").due("qualifiedGroups(0)", 4).due("qualifiedGroups(1)", 0).due("qualifiedGroups(-100)", 4);
        x.filter("g>5").due("qualifiedGroups(0)", 0).due("qualifiedGroups(-1)", 0);
    }

    private static void qualifiedGroupsOfFarBounds() {
        Subject.about("qualifiedGroups: the bound, at the ends of its type");
        Subject high = fullOfOnePair(99, 9).due("qualifiedGroups(3207600)", 32).due("qualifiedGroups(3207601)", 0);
        high.due("qualifiedGroups(2147483647)", 0).due("qualifiedGroups(-2147483648)", 32);
        Subject low = fullOfOnePair(99, -9).due("qualifiedGroups(-3207600)", 32).due("qualifiedGroups(-3207599)", 0);
        low.due("qualifiedGroups(2147483647)", 0).due("qualifiedGroups(-2147483648)", 32);
        new Subject().due("qualifiedGroups(2147483647)", 0).due("qualifiedGroups(-2147483648)", 0);
    }

    private static String ranking(Subject x) {
        StringBuilder groups = new StringBuilder();
        for (int rank = 0; rank <= 6; rank++) {
            String answer = x.answer(Subject.call("rankedGroup", rank));
            groups.append(answer.equals(Subject.INDEX) ? "." : answer);
        }
        return groups.toString();
    }

    private static void rankedGroup() {
        Subject.about("The groups with at least one row are ranked by descending sums");
        Subject x = new Subject().make("insertLeft(0, 4, -5)", "insertLeft(0, 1, -9)", "insertLeft(1, 2, 50)");
        Subject.same("without rows", ranking(x), ".......");
        x.make("insertRight(0, 1)", "apply()");
        Subject.same("below 0, with groups that have no rows", ranking(x), "41.....");
        x.make("insertRight(1, 1)", "insertLeft(1, 0, 0)", "insertLeft(1, 3, 51)", "insertLeft(1, 5, 49)", "apply()");
        Subject.same("with all groups", ranking(x), "325041.");
        x.make("insertRight(1, -2)", "apply()");
        Subject.same("with other sums", ranking(x), "041523.");
        x.filter("!g=4&!g=0");
        Subject.same("under a filter", ranking(x), "1523...");
    }

    private static void rankedGroupOfEqualSums() {
        Subject.about("and groups with equal sums by their numbers.");
        Subject x = new Subject();
        for (int group = 5; group >= 0; group--) {
            x.make(Subject.call("insertLeft", group, group, 6), Subject.call("insertRight", group, 2));
        }
        x.make("apply()");
        Subject.same("six equal sums", ranking(x), "012345.");
        x.make("insertRight(3, -1)", "insertRight(0, -1)", "insertRight(5, 1)", "apply()");
        Subject.same("two equal sums below", ranking(x), "512403.");
        x.make("insertLeft(3, 3, -6)", "insertLeft(4, 4, -6)", "insertLeft(1, 1, -6)", "apply()");
        Subject.same("three sums of 0", ranking(x), "520134.");
    }

    private static void rankOutOfRange() {
        Subject.about("rankedGroup throws IndexOutOfBoundsException if rank is negative or not less than the number of "
                + "groups with rows");
        Subject x = new Subject().due("rankedGroup(0)", Subject.INDEX).due("rankedGroup(-1)", Subject.INDEX);
        for (int group = 0; group <= 5; group++) {
            x.make(Subject.call("insertLeft", 0, group, 7), Subject.call("insertLeft", 1, group, 7));
            x.make(group == 0 ? "insertRight(0, 1)" : "batchSize()", "apply()");
            x.due("rankedGroup(-1)", Subject.INDEX).due("rankedGroup(0)", 0);
            x.due(Subject.call("rankedGroup", group), group).due(Subject.call("rankedGroup", group + 1), Subject.INDEX);
            x.due(Subject.call("rankedGroup", group + 2), Subject.INDEX);
        }
        x.range(Subject.INDEX, 0, 0, 5, "rankedGroup", 0);
    }

    private static void changesOfMultiplicity() {
        Subject.about("The latest change consists of all join rows whose multiplicity was changed by the latest successful "
                + "call of apply or rollback, with the new multiplicity minus the old one.");
        Subject x = new Subject().times(3, "insertLeft(0, 0, 1)").make("insertRight(0, 1)", "insertLeft(1, 1, 1)",
                "insertRight(1, 1)").due("apply()", 2);
        Subject.same("from nothing", x.changeRows(), "0,0,1*3 1,1,1*1");
        x.make("deleteLeft(0, 0, 1)").due("apply()", 1);
        Subject.same("one less", x.changeRows(), "0,0,1*-1");
        x.make("insertRight(0, 1)", "insertLeft(2, 0, 0)").due("apply()", 1);
        Subject.same("twice as many", x.changeRows(), "0,0,1*2");
        x.make("deleteLeft(0, 0, 1)", "deleteLeft(0, 0, 1)", "insertLeft(0, 0, -1)").due("apply()", 2);
        Subject.same("all go, others come", x.changeRows(), "0,0,-1*2 0,0,1*-4");
        x.due("rollback()", 2);
        Subject.same("the other way round", x.changeRows(), "0,0,-1*-2 0,0,1*4");
        x.make("insertLeft(0, 0, 1)", "deleteRight(0, 1)", "deleteLeft(1, 1, 1)", "insertLeft(1, 1, 1)").due("apply()", 1);
        Subject.same("4 become 3", x.changeRows(), "0,0,1*-1");
        x.make("insertLeft(0, 0, 1)", "discard()").due("changeCount()", 1);
        x.make("deleteLeft(0, 0, 1)", "insertLeft(0, 0, 1)").due("apply()", 0).due("changeCount()", 0);
    }

    private static void changeOrder() {
        Subject.about("The rows of the latest change are ordered like the rows of the join.");
        Subject x = new Subject().make("insertLeft(9, 5, 99)", "insertLeft(0, 5, 1)", "insertLeft(9, 0, 1)",
                "insertLeft(0, 0, -99)", "insertRight(9, -9)", "insertRight(0, 9)").due("apply()", 4);
        x.make("deleteLeft(0, 0, -99)", "insertLeft(0, 0, 99)", "insertLeft(9, 5, -99)", "deleteLeft(9, 0, 1)",
                "deleteLeft(9, 5, 99)", "insertLeft(0, 5, 1)", "insertLeft(9, 0, 0)").due("apply()", 7);
        Subject.same("the rows", x.changeRows(),
                "0,0,-891*-1 0,0,891*1 0,5,9*1 9,0,-9*-1 9,0,0*1 9,5,-891*-1 9,5,891*1");
    }

    private static void changeIsEmptyAtFirst() {
        Subject.about("It is empty at first");
        Subject x = new Subject().due("changeCount()", 0).due("changeRow(0, 0)", Subject.INDEX);
        x.make("insertLeft(0, 0, 1)", "insertRight(0, 1)").due("changeCount()", 0).due("changedWatches()", 0);
    }

    private static void changeIsEmptyAfterSuccess() {
        Subject.about("It is empty ... after each successful call of setFilter, clearFilter and restore.");
        for (String call : new String[] {"setFilter()", "clearFilter()", "restore()"}) {
            Subject x = new Subject().make("save()", "insertLeft(0, 0, 1)", "insertRight(0, 1)").type("k=0");
            x.due("apply()", 1).make(call).due("changeCount()", 0).due("changeRow(0, 0)", Subject.INDEX);
            x.make("insertLeft(0, 1, 1)", "insertRight(0, 2)").make("apply()", "rollback()").make(call.equals("setFilter()")
                    ? "clearFilter()" : call).due("changeCount()", 0);
        }
        Subject failed = new Subject().make("insertLeft(0, 0, 1)", "insertRight(0, 1)").due("apply()", 1);
        failed.wrongFilter("").due("changeCount()", 1).due("restore()", Subject.STATE).due("changeCount()", 1);
        failed.wrongFilter("k=0&").due("changeCount()", 1).make("save()").due("changeCount()", 1);
        failed.due("rollback()", 1).due("rollback()", Subject.STATE).due("changeCount()", 1).due("changeRow(0, 3)", -1);
    }

    private static void changeOfMostRows() {
        Subject.about("changeCount returns the number of rows of the latest change: with as many as a batch can change");
        Subject x = new Subject();
        for (int i = 0; i < 60; i++) {
            x.make(Subject.call("insertLeft", i / 30, i % 6, PRIMES[i % 30 / 6]));
            if (i == 29) {
                x.make("apply()");
            }
        }
        for (int factor = -9; factor <= 0; factor++) {
            x.make(Subject.call("insertRight", 0, factor));
        }
        x.make("apply()");
        for (int factor = 1; factor <= 9; factor++) {
            x.make(Subject.call("insertRight", 0, factor));
        }
        x.make("apply()").due("joinDistinct()", 546).due("joinSize()", 570);
        for (int factor = -9; factor <= 9; factor++) {
            x.make(Subject.call("deleteRight", 0, factor), Subject.call("insertRight", 1, factor));
        }
        x.due("batchSize()", 38).due("apply()", 1092).due("changeCount()", 1092).due("joinDistinct()", 546);
        x.due("changeRow(0, 0)", 0).due("changeRow(0, 3)", -1).due("changeRow(545, 0)", 0).due("changeRow(545, 3)", -1);
        x.due("changeRow(546, 0)", 1).due("changeRow(546, 3)", 1).due("changeRow(1091, 1)", 5);
        x.due("changeRow(1091, 2)", 873).due("changeRow(45, 2)", 0).due("changeRow(45, 3)", -5);
        x.due("changeRow(1092, 0)", Subject.INDEX).due("rollback()", 1092).due("changeRow(1091, 3)", -1);
        x.due("changeRow(0, 3)", 1).due("changeRow(1092, 3)", Subject.INDEX).due("joinSize()", 570);
    }

    private static void changeRowIndex() {
        Subject.about("changeRow throws IndexOutOfBoundsException if there is no such row or column");
        Subject x = new Subject();
        for (int column = -1; column <= 4; column++) {
            x.due(Subject.call("changeRow", 0, column), Subject.INDEX);
            x.due(Subject.call("changeRow", -1, column), Subject.INDEX);
        }
        x.times(2, "insertLeft(8, 4, -9)").make("insertRight(8, 1)", "insertRight(8, 2)", "insertRight(8, 3)").due("apply()", 3);
        x.range(Subject.INDEX, 0, 0, 2, "changeRow", 0, 0).range(Subject.INDEX, 1, 0, 3, "changeRow", 2, 0);
        x.due("changeRow(0, 0)", 8).due("changeRow(0, 1)", 4).due("changeRow(0, 2)", -27).due("changeRow(0, 3)", 2);
        x.due("changeRow(3, 0)", Subject.INDEX).due("changeRow(2, 4)", Subject.INDEX).due("changeRow(3, 4)", Subject.INDEX);
        x.make("deleteRight(8, 1)").due("apply()", 1).due("changeRow(0, 3)", -2).due("changeRow(1, 3)", Subject.INDEX);
        x.due("joinRow(1, 3)", 2).due("joinRow(2, 3)", Subject.INDEX);
    }
}
