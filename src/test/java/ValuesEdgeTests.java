import java.util.List;

/** Each sentence that names an edge of promises 6 to 9: the horizon, and what is asked of all values. */
public final class ValuesEdgeTests extends Checks {
    private static final int[] NO_TYPES = {-1, 1, 2, 4, 9, LEAST, GREATEST};
    private static final int[] NO_SIZES = {0, 9, -1, 10, 100, LEAST, GREATEST};
    private static final int[] NO_PROPERTIES = {0, 6, -1, 7, LEAST, GREATEST};

    public static void main(String[] args) {
        horizonOfNothing();
        horizonWithThreeHundred();
        horizonAtEachSize();
        horizonOfAllTypes();
        horizonIsAskedAnew();
        onlyUpToTheHorizon();
        countOfEachSize();
        countRefuses();
        totalOfEachSize();
        totalRefuses();
        firstAgainstAtItsSize();
        firstAgainstOfTheValueItself();
        firstAgainstSaysNone();
        firstAgainstRefuses();
        firstNamedOfFirstAgainst();
        askingChangesNothing();
        finish("edges of promises 6 to 9");
    }

    // ---- promise 6: horizon

    private static void horizonOfNothing() {
        says(6, "The horizon is the greatest size h, from 0 to 8");
        due("without types", 8, () -> new DataMaker().horizon());
        DataMaker x = new DataMaker();
        x.addType();
        due("without constructors", 8, x::horizon);
        x.addConstructor(0, 0, NO, NO, 0);
        due("with a constructor that never comes to an end", 8, x::horizon);
        due("no value is made by it", 0, () -> x.total(0, 8));
    }

    private static void horizonWithThreeHundred() {
        says(6, "for which all types together have at most 300 values with sizes up to h");
        DataMaker x = threeHundred();
        due("300 values of size 1", 8, x::horizon);
        due("all of them", 300, () -> x.count(0, 1));
        x.addConstructor(0, NO, NO, NO, 0);
        due("301 values of size 1", 0, x::horizon);
        DataMaker y = threeHundredOfSizeTwo();
        due("48 of size 1 and 252 of size 2", 8, y::horizon);
        y.addConstructor(3, NO, NO, NO, 0);
        due("49 of size 1 and 252 of size 2", 1, y::horizon);
        DataMaker z = threeHundredOfSizeTwo();
        z.addConstructor(3, 1, NO, NO, 0);
        due("300 up to size 2, and more of size 3", 2, z::horizon);
        due("those of size 2", 252, () -> z.count(1, 2));
    }

    /** In three types: 36 + 6 + 6 values of size 1, and 216 + 36 of size 2. */
    private static DataMaker threeHundredOfSizeTwo() {
        DataMaker x = new DataMaker();
        x.setRange(0, 5);
        for (int type = 0; type < 4; type++) {
            x.addType();
        }
        x.addConstructor(0, INT, INT, NO, 0);
        x.addConstructor(1, 0, INT, NO, 0);
        x.addConstructor(1, 0, NO, NO, 0);
        x.addConstructor(2, INT, NO, NO, 0);
        x.addConstructor(2, INT, NO, NO, 0);
        return x;
    }

    /** A list whose end is a row of numbers, and whose links are numbers and a list. */
    private static DataMaker chains(int high, int endNumbers, int linkNumbers, int links) {
        DataMaker x = new DataMaker();
        x.setRange(0, high);
        x.addType();
        x.addConstructor(0, endNumbers > 0 ? INT : NO, endNumbers > 1 ? INT : NO, endNumbers > 2 ? INT : NO, 0);
        for (int i = 0; i < links; i++) {
            if (linkNumbers == 2) {
                x.addConstructor(0, INT, INT, 0, 0);
            } else {
                x.addConstructor(0, INT, 0, NO, 0);
            }
        }
        return x;
    }

    private static void horizonAtEachSize() {
        says(6, "The horizon is the greatest size h, from 0 to 8");
        due("432", 0, () -> tooMany().horizon());
        due("216, then 7776", 1, () -> chains(5, 3, 2, 1).horizon());
        due("1 + 36, then 1296", 2, () -> chains(5, 0, 2, 1).horizon());
        due("1 + 12 + 144, then 1728", 3, () -> chains(5, 0, 1, 2).horizon());
        due("1 + 6 + 36 + 216, then 1296", 4, () -> chains(5, 0, 1, 1).horizon());
        due("1 + 3 + 9 + 27 + 81, then 243", 5, () -> chains(2, 0, 1, 1).horizon());
        due("3 * (1 + 2 + 4 + 8 + 16 + 32) = 189, then 192 more", 6, () -> {
            DataMaker x = chains(1, 0, 1, 1);
            x.addConstructor(0, NO, NO, NO, 0);
            x.addConstructor(0, NO, NO, NO, 0);
            x.setRange(0, 1);
            return x.horizon();
        });
        DataMaker y = chains(1, 0, 1, 1);
        due("1 + 2 + 4 .. + 128 = 255", 8, y::horizon);
        y.addType();
        y.addConstructor(1, 0, NO, NO, 0);
        due("127 + 63, then 255 + 127", 7, y::horizon);
        due("count at size 7", 64, () -> y.count(0, 7));
        due("count at size 8", NO_STATE, () -> y.count(0, 8));
        DataMaker z = chains(0, 0, 1, 1);
        due("one value of each size", 8, z::horizon);
        due("and none beyond 8 is counted", 8, () -> z.total(0, 8));
    }

    private static void horizonOfAllTypes() {
        says(6, "all types together");
        DataMaker x = triples(0);
        x.setRange(0, 5);
        x.addType();
        x.addConstructor(1, INT, INT, NO, 0);
        x.addConstructor(1, INT, INT, NO, 0);
        due("216 and 72", 8, x::horizon);
        x.addType();
        x.addConstructor(2, INT, NO, NO, 0);
        x.addType();
        x.addConstructor(3, INT, NO, NO, 0);
        due("216, 72, 6 and 6", 8, x::horizon);
        due("all of the first type", 216, () -> x.total(0, 8));
        x.addConstructor(3, NO, NO, NO, 0);
        due("216, 72, 6 and 7", 0, x::horizon);
        due("none of the first type", NO_STATE, () -> x.total(0, 1));
        says(6, "for the constructor of the value, and those of all values in it, the condition is true");
        DataMaker y = triples(5);
        y.addConstructor(0, INT, INT, INT, 5);
        y.setRange(0, 5);
        due("108 and 108 even triples", 8, y::horizon);
    }

    private static void horizonIsAskedAnew() {
        says(6, "Returns the horizon.");
        DataMaker x = lists(0);
        due("lists of 3 numbers", 5, x::horizon);
        x.setRange(0, 1);
        due("lists of 2 numbers", 8, x::horizon);
        x.setRange(0, 5);
        due("lists of 6 numbers", 4, x::horizon);
        due("a refused range", NO_ARGUMENT, () -> x.setRange(0, 6));
        due("behind it", 4, x::horizon);
        x.addType();
        due("with a type more", 4, x::horizon);
        x.addConstructor(1, INT, INT, NO, 0);
        due("259 and 36", 4, x::horizon);
        x.addConstructor(1, INT, NO, NO, 0);
        due("259 and 42: 43 and 42 up to size 3", 3, x::horizon);
    }

    private static void onlyUpToTheHorizon() {
        says(6, "Methods know only values up to the horizon.");
        DataMaker x = lists(0);
        due("select of the last one", 5, () -> x.select(0, 120));
        due("select behind it", NO_STATE, () -> x.select(0, 121));
        due("count", NO_STATE, () -> x.count(0, 6));
        due("total", NO_STATE, () -> x.total(0, 6));
        due("firstAgainst", NO_STATE, () -> x.firstAgainst(0, 1, 6));
        due("draw", NO_STATE, () -> x.draw(0, 6, 1));
        due("read", NO_STATE, () -> readAll(x, 0, listCode(0, 0, 0, 0, 0)));
        DataMaker y = threeHundredOfSizeTwo();
        y.addConstructor(3, NO, NO, NO, 0);
        due("horizon 1: a type that has values of size 2 alone", 0, () -> y.total(1, 1));
        due("horizon 1: none of them can be selected", NO_STATE, () -> y.select(1, 0));
    }

    // ---- promise 7: count

    private static void countOfEachSize() {
        says(7, "Returns how many values of the type have this size.");
        DataMaker x = trees(0);
        int[] due = {1, 0, 1, 0, 2, 0, 5, 0};
        for (int size = 1; size <= 8; size++) {
            int asked = size;
            due("trees of size " + size, due[size - 1], () -> x.count(0, asked));
        }
        DataMaker y = lists(0);
        y.setRange(0, 1);
        due("the least size", 1, () -> y.count(0, 1));
        due("the greatest size", 128, () -> y.count(0, 8));
        y.setRange(0, 2);
        due("the size that is the horizon", 81, () -> y.count(0, 5));
        y.addType();
        y.addConstructor(1, 0, NO, NO, 0);
        due("another type: 81 lists and 27 in a box", 27, () -> y.count(1, 5));
        due("no box is as small as a list", 0, () -> y.count(1, 1));
    }

    private static void countRefuses() {
        says(7, "Throws IndexOutOfBoundsException if there is no such type");
        for (int type : NO_TYPES) {
            refused("count(" + type + ", 1)", NO_INDEX, ValuesEdgeTests::busyLists, x -> x.count(type, 1));
            refused("count(" + type + ", 8)", NO_INDEX, ValuesEdgeTests::busyTrees, x -> x.count(type, 8));
        }
        says(7, "Throws IllegalArgumentException if size is not 1 to 8");
        for (int size : NO_SIZES) {
            refused("count(0, " + size + ")", NO_ARGUMENT, ValuesEdgeTests::busyTrees, x -> x.count(0, size));
        }
        says(7, "Throws IllegalStateException if size is greater than the horizon");
        for (int size = 1; size <= 8; size++) {
            int asked = size;
            refused("count(0, " + size + ") with horizon 0", NO_STATE, ValuesEdgeTests::tooMany,
                    x -> x.count(0, asked));
            if (size > 5) {
                refused("count(0, " + size + ") with horizon 5", NO_STATE, ValuesEdgeTests::busyLists,
                        x -> x.count(0, asked));
            }
        }
        says(7, "If several exceptions apply, the one that is named first is thrown.");
        for (int size : NO_SIZES) {
            refused("no type, size " + size, NO_INDEX, ValuesEdgeTests::busyLists, x -> x.count(1, size));
            refused("size " + size + ", horizon 5", NO_ARGUMENT, ValuesEdgeTests::busyLists, x -> x.count(0, size));
            refused("size " + size + ", horizon 0", NO_ARGUMENT, ValuesEdgeTests::tooMany, x -> x.count(0, size));
        }
        refused("no type, size beyond the horizon", NO_INDEX, ValuesEdgeTests::busyLists, x -> x.count(1, 6));
        refused("no type, size beyond horizon 0", NO_INDEX, ValuesEdgeTests::tooMany, x -> x.count(-1, 1));
    }

    // ---- promise 8: total

    private static void totalOfEachSize() {
        says(8, "Returns how many values of the type have this size or a smaller one.");
        DataMaker x = trees(0);
        int[] due = {1, 1, 2, 2, 4, 4, 9, 9};
        for (int size = 1; size <= 8; size++) {
            int asked = size;
            due("trees up to size " + size, due[size - 1], () -> x.total(0, asked));
        }
        DataMaker y = lists(0);
        y.setRange(0, 1);
        due("the least size", 1, () -> y.total(0, 1));
        due("the greatest size", 255, () -> y.total(0, 8));
        y.setRange(0, 2);
        due("the size that is the horizon", 121, () -> y.total(0, 5));
        y.addType();
        y.addConstructor(1, 0, NO, NO, 0);
        due("another type", 40, () -> y.total(1, 5));
        due("300 in one type", 300, () -> threeHundred().total(0, 8));
    }

    private static void totalRefuses() {
        says(8, "Throws IndexOutOfBoundsException if there is no such type");
        for (int type : NO_TYPES) {
            refused("total(" + type + ", 1)", NO_INDEX, ValuesEdgeTests::busyLists, x -> x.total(type, 1));
            refused("total(" + type + ", 8)", NO_INDEX, ValuesEdgeTests::busyTrees, x -> x.total(type, 8));
        }
        says(8, "Throws IllegalArgumentException if size is not 1 to 8");
        for (int size : NO_SIZES) {
            refused("total(0, " + size + ")", NO_ARGUMENT, ValuesEdgeTests::busyTrees, x -> x.total(0, size));
        }
        says(8, "Throws IllegalStateException if size is greater than the horizon");
        for (int size = 1; size <= 8; size++) {
            int asked = size;
            refused("total(0, " + size + ") with horizon 0", NO_STATE, ValuesEdgeTests::tooMany,
                    x -> x.total(0, asked));
            if (size > 5) {
                refused("total(0, " + size + ") with horizon 5", NO_STATE, ValuesEdgeTests::busyLists,
                        x -> x.total(0, asked));
            }
        }
        says(8, "If several exceptions apply, the one that is named first is thrown.");
        for (int size : NO_SIZES) {
            refused("no type, size " + size, NO_INDEX, ValuesEdgeTests::busyLists, x -> x.total(1, size));
            refused("size " + size + ", horizon 5", NO_ARGUMENT, ValuesEdgeTests::busyLists, x -> x.total(0, size));
            refused("size " + size + ", horizon 0", NO_ARGUMENT, ValuesEdgeTests::tooMany, x -> x.total(0, size));
        }
        refused("no type, size beyond the horizon", NO_INDEX, ValuesEdgeTests::busyLists, x -> x.total(1, 6));
        refused("no type, size beyond horizon 0", NO_INDEX, ValuesEdgeTests::tooMany, x -> x.total(-1, 1));
    }

    // ---- promise 9: firstAgainst

    private static void firstAgainstAtItsSize() {
        says(9, "Returns the number of the first value of the type, with at most this size, for which it is not true");
        DataMaker x = lists(0);
        due("ORDER: 0 0 has size 3", 4, () -> x.firstAgainst(0, 1, 3));
        due("ORDER: none of size 2", -1, () -> x.firstAgainst(0, 1, 2));
        due("HEAP: 1 0 has size 3", 7, () -> x.firstAgainst(0, 2, 3));
        due("HEAP: none of size 2", -1, () -> x.firstAgainst(0, 2, 2));
        due("EVEN: 1 has size 2", 2, () -> x.firstAgainst(0, 5, 2));
        due("EVEN: none of size 1", -1, () -> x.firstAgainst(0, 5, 1));
        due("EVEN, up to the horizon", 2, () -> x.firstAgainst(0, 5, 5));
        DataMaker t = trees(0);
        due("LEVEL: (leaf, fork) has size 5", 2, () -> t.firstAgainst(0, 3, 5));
        due("LEVEL: none of size 4", -1, () -> t.firstAgainst(0, 3, 4));
        due("BALANCE: (leaf, (leaf, fork)) has size 7", 4, () -> t.firstAgainst(0, 4, 7));
        due("BALANCE: none of size 6", -1, () -> t.firstAgainst(0, 4, 6));
        due("BALANCE, up to 8", 4, () -> t.firstAgainst(0, 4, 8));
        DataMaker y = triples(0);
        y.setRange(1, 1);
        due("EVEN: the value with number 0", 0, () -> y.firstAgainst(0, 5, 1));
        due("ORDER: the value with number 0", 0, () -> y.firstAgainst(0, 1, 8));
        due("its number in its type", 0, () -> {
            DataMaker z = trees(0);
            z.addType();
            z.addConstructor(1, 0, 0, NO, 0);
            z.addConstructor(1, INT, NO, NO, 0);
            z.setRange(1, 1);
            return z.firstAgainst(1, 5, 1);
        });
    }

    private static void firstAgainstOfTheValueItself() {
        says(9, "a condition, 1 to 5, that is asked of the value itself (not of those in it)");
        DataMaker boxes = trees(0);
        boxes.addType();
        boxes.addConstructor(1, 0, NO, NO, 0);
        due("LEVEL of a box with a tree that is not level", -1, () -> boxes.firstAgainst(1, 3, 8));
        due("BALANCE of a box with a tree that is not balanced", -1, () -> boxes.firstAgainst(1, 4, 8));
        DataMaker pairs = new DataMaker();
        pairs.addType();
        pairs.addType();
        pairs.addConstructor(0, INT, INT, NO, 0);
        pairs.addConstructor(1, 0, NO, NO, 0);
        due("HEAP of a box with a pair that is not heaped", -1, () -> pairs.firstAgainst(1, 2, 8));
        due("HEAP of the pair", 3, () -> pairs.firstAgainst(0, 2, 8));
        due("EVEN of a box with a pair 0 1", 1, () -> pairs.firstAgainst(1, 5, 8));
        DataMaker sums = new DataMaker();
        sums.addType();
        sums.addType();
        sums.addConstructor(0, INT, NO, NO, 0);
        sums.addConstructor(1, 0, 0, NO, 0);
        sums.setRange(1, 1);
        due("EVEN of 1 and 1, though each of them is odd", -1, () -> sums.firstAgainst(1, 5, 8));
        due("EVEN of 1", 0, () -> sums.firstAgainst(0, 5, 8));
    }

    private static void firstAgainstSaysNone() {
        says(9, "-1 if there is none");
        DataMaker x = trees(0);
        x.addType();
        for (int p = 1; p <= 5; p++) {
            int property = p;
            due("a type without values, property " + p, -1, () -> x.firstAgainst(1, property, 8));
            due("values that must have property " + p, -1, () -> {
                DataMaker y = lists(property);
                return y.firstAgainst(0, property, y.horizon());
            });
            due("a leaf, property " + p, -1, () -> x.firstAgainst(0, property, 1));
        }
        due("trees without numbers are even", -1, () -> x.firstAgainst(0, 5, 8));
        due("trees without numbers are in order", -1, () -> x.firstAgainst(0, 1, 8));
        due("trees without numbers are heaped", -1, () -> x.firstAgainst(0, 2, 8));
        due("lists have one part", -1, () -> lists(0).firstAgainst(0, 3, 5));
        due("lists have one part, which is balanced", -1, () -> lists(0).firstAgainst(0, 4, 5));
    }

    private static void firstAgainstRefuses() {
        says(9, "Throws IndexOutOfBoundsException if there is no such type");
        for (int type : NO_TYPES) {
            refused("firstAgainst(" + type + ", 1, 1)", NO_INDEX, ValuesEdgeTests::busyLists,
                    x -> x.firstAgainst(type, 1, 1));
        }
        says(9, "Throws IllegalArgumentException if property is not 1 to 5, or size is not 1 to 8");
        for (int property : NO_PROPERTIES) {
            refused("firstAgainst(0, " + property + ", 1)", NO_ARGUMENT, ValuesEdgeTests::busyTrees,
                    x -> x.firstAgainst(0, property, 1));
        }
        for (int size : NO_SIZES) {
            refused("firstAgainst(0, 5, " + size + ")", NO_ARGUMENT, ValuesEdgeTests::busyTrees,
                    x -> x.firstAgainst(0, 5, size));
        }
        says(9, "Throws IllegalStateException if size is greater than the horizon");
        for (int p = 1; p <= 5; p++) {
            int property = p;
            refused("firstAgainst(0, " + p + ", 6) with horizon 5", NO_STATE, ValuesEdgeTests::busyLists,
                    x -> x.firstAgainst(0, property, 6));
            refused("firstAgainst(0, " + p + ", 8) with horizon 5", NO_STATE, ValuesEdgeTests::busyLists,
                    x -> x.firstAgainst(0, property, 8));
            refused("firstAgainst(0, " + p + ", 1) with horizon 0", NO_STATE, ValuesEdgeTests::tooMany,
                    x -> x.firstAgainst(0, property, 1));
        }
        refused("a value against it is known, but the size is too great", NO_STATE, ValuesEdgeTests::busyLists,
                x -> x.firstAgainst(0, 5, 7));
    }

    private static void firstNamedOfFirstAgainst() {
        says(9, "If several exceptions apply, the one that is named first is thrown.");
        refused("no type, no property", NO_INDEX, ValuesEdgeTests::busyLists, x -> x.firstAgainst(1, 0, 1));
        refused("no type, no size", NO_INDEX, ValuesEdgeTests::busyLists, x -> x.firstAgainst(1, 1, 9));
        refused("no type, beyond the horizon", NO_INDEX, ValuesEdgeTests::busyLists, x -> x.firstAgainst(1, 1, 6));
        refused("all of them", NO_INDEX, ValuesEdgeTests::tooMany, x -> x.firstAgainst(-1, 6, 9));
        refused("no property, beyond the horizon", NO_ARGUMENT, ValuesEdgeTests::busyLists,
                x -> x.firstAgainst(0, 0, 6));
        refused("no property (6), beyond horizon 0", NO_ARGUMENT, ValuesEdgeTests::tooMany,
                x -> x.firstAgainst(0, 6, 1));
        refused("no size, beyond the horizon", NO_ARGUMENT, ValuesEdgeTests::busyLists,
                x -> x.firstAgainst(0, 1, 9));
        refused("no size (0), horizon 0", NO_ARGUMENT, ValuesEdgeTests::tooMany, x -> x.firstAgainst(0, 1, 0));
    }

    // ---- promises 6 to 9 ask, and no more

    private static void askingChangesNothing() {
        says(9, "The selected value, of which methods without a type speak, is that of the latest call of select, draw, read or reduce that said so");
        DataMaker x = busyLists();
        x.horizon();
        x.count(0, 3);
        x.total(0, 3);
        x.firstAgainst(0, 1, 5);
        x.typeCount();
        due("the selection behind questions", List.of(101, 1, 101, 2, 100), () -> codeOf(x));
        due("all behind questions", traceOf(busyLists()), () -> traceOf(x));
    }
}
