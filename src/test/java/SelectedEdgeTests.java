import java.util.ArrayList;
import java.util.List;

/** Each sentence that names an edge of promises 14 to 23: the selected value, and the checksum. */
public final class SelectedEdgeTests extends Checks {
    private static final int[] NO_PROPERTIES = {0, 6, -1, 7, 100, LEAST, GREATEST};
    private static final int[] NO_INDEXES = {-1, -2, 100, 300, LEAST, GREATEST};

    public static void main(String[] args) {
        noneIsSelected();
        firstNamedWithoutSelection();
        lengths();
        codes();
        numbers();
        heights();
        means();
        holdsRefuses();
        reductionCounts();
        reductionsWithin();
        reductionsByNumbers();
        reductionsKeepConditions();
        reductionsOfNewTypes();
        reductionRefuses();
        reduceStaysWhereItIs();
        reduceGoesOn();
        reduceTakesTheFirst();
        reduceRefuses();
        digestOfEachPart();
        digestOfTheSelection();
        digestWrapsAround();
        finish("edges of promises 14 to 23");
    }

    // ---- without a selected value

    /** In different ways: never selected, and ended by each of the three calls that end it. */
    private static List<DataMaker> withoutSelection() {
        DataMaker range = busyLists();
        range.setRange(0, 2);
        DataMaker type = busyLists();
        type.addType();
        DataMaker constructor = busyLists();
        constructor.addConstructor(0, NO, NO, NO, 0);
        return List.of(new DataMaker(), lists(0), tooMany(), range, type, constructor);
    }

    private static DataMaker unselectedLists() {
        DataMaker x = busyLists();
        x.setRange(0, 2);
        return x;
    }

    private static void noneIsSelected() {
        for (DataMaker x : withoutSelection()) {
            says(14, "Throws IllegalStateException if no value is selected");
            due("length()", NO_STATE, x::length);
            says(15, "Throws IllegalStateException if no value is selected");
            due("code(0)", NO_STATE, () -> x.code(0));
            says(16, "Throws IllegalStateException if no value is selected");
            due("number()", NO_STATE, x::number);
            says(17, "Throws IllegalStateException if no value is selected");
            due("height()", NO_STATE, x::height);
            says(18, "Throws IllegalStateException if no value is selected");
            due("mean()", NO_STATE, x::mean);
            says(19, "Throws IllegalStateException if no value is selected");
            due("holds(1)", NO_STATE, () -> x.holds(1));
            says(20, "Throws IllegalStateException if no value is selected");
            due("reductionCount()", NO_STATE, x::reductionCount);
            says(21, "Throws IllegalStateException if no value is selected");
            due("reduction(0)", NO_STATE, () -> x.reduction(0));
            says(22, "Throws IllegalStateException if no value is selected");
            due("reduce(1)", NO_STATE, () -> x.reduce(1));
        }
        says(14, "A method that throws an exception changes nothing");
        refused("length()", NO_STATE, SelectedEdgeTests::unselectedLists, x -> x.length());
        says(16, "A method that throws an exception changes nothing");
        refused("number()", NO_STATE, SelectedEdgeTests::unselectedLists, x -> x.number());
        says(17, "A method that throws an exception changes nothing");
        refused("height()", NO_STATE, SelectedEdgeTests::unselectedLists, x -> x.height());
        says(18, "A method that throws an exception changes nothing");
        refused("mean()", NO_STATE, SelectedEdgeTests::unselectedLists, x -> x.mean());
        says(20, "A method that throws an exception changes nothing");
        refused("reductionCount()", NO_STATE, SelectedEdgeTests::unselectedLists, x -> x.reductionCount());
    }

    private static void firstNamedWithoutSelection() {
        for (int index : new int[] {-1, 0, 1, 25, LEAST, GREATEST}) {
            says(15, "If several exceptions apply, the one that is named first is thrown.");
            refused("code(" + index + ")", NO_STATE, SelectedEdgeTests::unselectedLists, x -> x.code(index));
            says(21, "If several exceptions apply, the one that is named first is thrown.");
            refused("reduction(" + index + ")", NO_STATE, SelectedEdgeTests::unselectedLists,
                    x -> x.reduction(index));
        }
        for (int property : new int[] {0, 1, 5, 6, -1, LEAST, GREATEST}) {
            says(19, "If several exceptions apply, the one that is named first is thrown.");
            refused("holds(" + property + ")", NO_STATE, SelectedEdgeTests::unselectedLists, x -> x.holds(property));
            says(22, "If several exceptions apply, the one that is named first is thrown.");
            refused("reduce(" + property + ")", NO_STATE, SelectedEdgeTests::unselectedLists,
                    x -> x.reduce(property));
        }
    }

    // ---- promises 14 to 18: its code, number, height and mean

    /** One value of each size up to 8: a link has two numbers, the end has three. */
    private static DataMaker longChains() {
        DataMaker x = new DataMaker();
        x.addType();
        x.setRange(5, 5);
        x.addConstructor(0, INT, INT, INT, 0);
        x.addConstructor(0, INT, INT, 0, 0);
        return x;
    }

    private static void lengths() {
        says(14, "Returns how many numbers its code has.");
        DataMaker x = lists(0);
        x.select(0, 0);
        due("the least", 1, x::length);
        x.select(0, 120);
        due("4 numbers and nil", 9, x::length);
        DataMaker y = longChains();
        y.select(0, 0);
        due("three numbers", 4, y::length);
        y.select(0, 7);
        due("the greatest: 8 constructors and 17 numbers", 25, y::length);
        DataMaker z = trees(0);
        z.select(0, 8);
        due("a tree without numbers: its size", 7, z::length);
    }

    private static void codes() {
        says(15, "A value is told by numbers: 100 plus the number of its constructor, then its arguments in order: each one as its number, or as the code of a value.");
        DataMaker y = longChains();
        y.select(0, 7);
        due("the first number", 101, () -> y.code(0));
        due("the second number", 5, () -> y.code(1));
        due("the end's constructor", 100, () -> y.code(21));
        due("the last number", 5, () -> y.code(24));
        due("arguments of each kind", List.of(102, 101, 1, 100, 2, 100), () -> {
            DataMaker z = lists(0);
            z.addType();
            z.addConstructor(1, 0, INT, 0, 0);
            readAll(z, 1, 102, 101, 1, 100, 2, 100);
            return codeOf(z);
        });
        due("the greatest constructor number", List.of(105, 101, 0, 100), () -> {
            DataMaker z = lists(0);
            z.addType();
            for (int i = 0; i < 3; i++) {
                z.addConstructor(1, NO, NO, NO, 0);
            }
            z.addConstructor(1, 0, NO, NO, 0);
            return codeAt(z, 1, 4);
        });
        says(15, "Throws IndexOutOfBoundsException if there is no such index");
        due("behind the longest code", NO_INDEX, () -> y.code(25));
        for (int index : NO_INDEXES) {
            refused("code(" + index + ")", NO_INDEX, SelectedEdgeTests::busyLists, x -> x.code(index));
        }
        refused("code(5) of 5 numbers", NO_INDEX, SelectedEdgeTests::busyLists, x -> x.code(5));
        due("code(4) of 5 numbers", 100, () -> busyLists().code(4));
        y.select(0, 0);
        due("code(3) of a shorter code", 5, () -> y.code(3));
        due("code(4) of a shorter code", NO_INDEX, () -> y.code(4));
    }

    private static void numbers() {
        says(16, "Returns its number in its type.");
        DataMaker x = lists(0);
        x.addType();
        x.addConstructor(1, 0, NO, NO, 0);
        x.select(0, 0);
        due("the least", 0, x::number);
        x.select(0, 120);
        due("the greatest", 120, x::number);
        x.select(1, 0);
        due("the least of another type", 0, x::number);
        x.select(1, 39);
        due("the greatest of another type", 39, x::number);
        int drawn = x.draw(0, 5, 1);
        due("behind draw", drawn, x::number);
        int read = readAll(x, 1, 102, 101, 2, 100);
        due("behind read", 3, () -> read);
        due("behind read", 3, x::number);
        DataMaker y = threeHundred();
        y.select(0, 299);
        due("the last of 300", 299, y::number);
        y.reduce(5);
        due("behind reduce: 5, 1 is less and as odd", 295, y::number);
    }

    private static void heights() {
        says(17, "its height is 1 plus the greatest height of these, or 1 if there are none");
        DataMaker x = longChains();
        for (int n = 0; n < 8; n++) {
            x.select(0, n);
            due("a chain of size " + (n + 1), n + 1, x::height);
        }
        DataMaker y = trees(0);
        int[] due = {1, 2, 3, 3, 4, 4, 3, 4, 4};
        for (int n = 0; n < due.length; n++) {
            y.select(0, n);
            due("the tree " + n, due[n], y::height);
        }
    }

    private static void means() {
        says(18, "0 if there are none");
        DataMaker x = trees(0);
        x.select(0, 0);
        due("a leaf", 0.0, x::mean);
        x.select(0, 8);
        due("a tree", 0.0, x::mean);
        DataMaker nil = lists(0);
        nil.setRange(5, 5);
        nil.select(0, 0);
        due("nil", 0.0, nil::mean);
        says(18, "Returns the sum of its ints divided by how many there are");
        DataMaker y = longChains();
        y.select(0, 7);
        due("17 times 5", 5.0, y::mean);
        DataMaker z = threeHundred();
        z.select(0, 0);
        due("0 0 0", 0.0, z::mean);
        z.select(0, 215);
        due("5 5 5", 5.0, z::mean);
        z.select(0, 1);
        due("0 0 1", 1.0 / 3.0, z::mean);
        z.select(0, 214);
        due("5 5 4", 14.0 / 3.0, z::mean);
        DataMaker deep = lists(0);
        deep.addType();
        deep.addConstructor(1, 0, INT, 0, 0);
        readAll(deep, 1, 102, 101, 2, 100, 0, 101, 2, 100);
        due("2, 0 and 2, the outer ones in parts", 4.0 / 3.0, deep::mean);
        readAll(deep, 1, 102, 100, 1, 100);
        due("1 alone, between parts that have none", 1.0, deep::mean);
    }

    // ---- promise 19: holds

    private static void holdsRefuses() {
        says(19, "Throws IllegalArgumentException if property is not 1 to 5");
        for (int property : NO_PROPERTIES) {
            refused("holds(" + property + ")", NO_ARGUMENT, SelectedEdgeTests::busyLists, x -> x.holds(property));
        }
        says(19, "Returns whether it is true of the value.");
        DataMaker x = lists(0);
        x.select(0, 0);
        for (int p = 1; p <= 5; p++) {
            int property = p;
            due("nil has property " + p, true, () -> x.holds(property));
        }
        DataMaker y = new DataMaker();
        y.addType();
        y.addConstructor(0, INT, NO, NO, 0);
        y.addConstructor(0, INT, 0, 0, 0);
        y.setRange(0, 1);
        readAll(y, 0, 101, 1, 100, 0, 101, 0, 100, 0, 100, 0);
        due("ORDER of it", false, () -> y.holds(1));
        due("HEAP of it", false, () -> y.holds(2));
        due("LEVEL of it", false, () -> y.holds(3));
        due("BALANCE of it", true, () -> y.holds(4));
        due("EVEN of it", false, () -> y.holds(5));
    }

    // ---- promises 20 and 21: the reductions

    /** The reductions of the selected value, each as its code in one row; the selection is lost. */
    private static List<List<Integer>> reductionCodes(DataMaker x, int type) {
        List<List<Integer>> codes = new ArrayList<>();
        for (int number : reductionsOf(x)) {
            codes.add(codeAt(x, type, number));
        }
        return codes;
    }

    private static void reductionCounts() {
        says(20, "Returns the number of its reductions.");
        DataMaker x = lists(0);
        x.select(0, 0);
        due("nil", 0, x::reductionCount);
        due("the first of none", NO_INDEX, () -> x.reduction(0));
        x.select(0, 1);
        due("0: nil alone", 1, x::reductionCount);
        x.select(0, 3);
        due("2: nil, 0 and 1", 3, x::reductionCount);
        x.select(0, 120);
        due("2 2 2 2: 4 parts, and 4 numbers with 2 smaller ones", 12, x::reductionCount);
        DataMaker y = triples(0);
        y.setRange(0, 5);
        y.select(0, 215);
        due("5 5 5: 3 numbers with 5 smaller ones", 15, y::reductionCount);
        y.select(0, 0);
        due("0 0 0", 0, y::reductionCount);
        DataMaker z = longChains();
        z.select(0, 7);
        due("no smaller number in the range: 7 parts", 7, z::reductionCount);
        says(20, "The selected value");
        due("the selection stays", 7, z::number);
    }

    private static void reductionsWithin() {
        says(21, "first, the values of this type within it (not itself), in the order in which their codes begin in its code");
        DataMaker x = trees(0);
        x.select(0, 2);
        due("(leaf, fork)", List.of(0, 1), () -> reductionsOf(x));
        x.select(0, 3);
        due("(fork, leaf)", List.of(1, 0), () -> reductionsOf(x));
        x.select(0, 5);
        due("(leaf, (fork, leaf))", List.of(0, 3, 1), () -> reductionsOf(x));
        x.select(0, 7);
        due("((leaf, fork), leaf)", List.of(2, 0, 1), () -> reductionsOf(x));
        x.select(0, 8);
        due("((fork, leaf), leaf)", List.of(3, 1, 0), () -> reductionsOf(x));
        says(21, "Each reduction counts once, at its first place.");
        x.select(0, 1);
        due("two leaves", List.of(0), () -> reductionsOf(x));
        x.select(0, 6);
        due("two forks", List.of(1, 0), () -> reductionsOf(x));
        says(21, "The reductions of a value are values of the same type");
        DataMaker y = lists(0);
        y.addType();
        y.addConstructor(1, INT, 0, NO, 0);
        y.addConstructor(1, 0, 1, NO, 0);
        y.setRange(0, 1);
        readAll(y, 1, 103, 101, 1, 100, 102, 0, 101, 0, 100);
        due("no list within it, but a value of its own type, and a smaller number in a list",
                List.of(List.of(102, 0, 101, 0, 100), List.of(103, 101, 0, 100, 102, 0, 101, 0, 100)),
                () -> reductionCodes(y, 1));
    }

    private static void reductionsByNumbers() {
        says(21, "then, for each int, from left to right, and for each smaller number of the range in ascending order, the value with this number in its place");
        DataMaker x = lists(0);
        readAll(x, 0, listCode(2, 1));
        due("2 1", List.of(2, 0, 5, 8, 10), () -> reductionsOf(x));
        DataMaker y = triples(0);
        y.setRange(3, 5);
        y.select(0, 26);
        due("5 5 5 of 3 to 5", List.of(8, 17, 20, 23, 24, 25), () -> reductionsOf(y));
        y.select(0, 0);
        due("3 3 3 of 3 to 5", List.of(), () -> reductionsOf(y));
        y.select(0, 13);
        due("4 4 4 of 3 to 5", List.of(4, 10, 12), () -> reductionsOf(y));
        DataMaker z = lists(0);
        z.addType();
        z.addConstructor(1, 0, INT, 0, 0);
        readAll(z, 1, 102, 101, 1, 100, 1, 101, 1, 100);
        due("numbers in a part, between, and in a part",
                List.of(List.of(102, 101, 0, 100, 1, 101, 1, 100), List.of(102, 101, 1, 100, 0, 101, 1, 100),
                        List.of(102, 101, 1, 100, 1, 101, 0, 100)), () -> reductionCodes(z, 1));
    }

    private static void reductionsKeepConditions() {
        says(21, "if it is a value (all conditions are true)");
        DataMaker x = lists(1);
        readAll(x, 0, listCode(0, 1));
        due("0 1 in order: 1 and nil, not 0 0", List.of(2, 0), () -> reductionsOf(x));
        readAll(x, 0, listCode(1, 2));
        due("1 2 in order: 2, nil and 0 2, neither 1 0 nor 1 1", List.of(3, 0, 5), () -> reductionsOf(x));
        DataMaker y = new DataMaker();
        y.addType();
        y.addType();
        y.addConstructor(0, INT, INT, NO, 5);
        y.addConstructor(1, 0, INT, NO, 0);
        readAll(y, 1, 101, 100, 2, 2, 1);
        due("(2 2) 1 with even pairs: (0 2) 1, (2 0) 1 and (2 2) 0",
                List.of(List.of(101, 100, 0, 2, 1), List.of(101, 100, 2, 0, 1), List.of(101, 100, 2, 2, 0)),
                () -> reductionCodes(y, 1));
        DataMaker z = new DataMaker();
        z.addType();
        z.addType();
        z.addConstructor(0, INT, INT, NO, 0);
        z.addConstructor(1, 0, INT, NO, 5);
        readAll(z, 1, 101, 100, 2, 1, 1);
        due("(2 1) 1 that is even: (0 1) 1 alone", List.of(List.of(101, 100, 0, 1, 1)), () -> reductionCodes(z, 1));
        DataMaker heaps = triples(2);
        readAll(heaps, 0, 100, 1, 2, 1);
        due("1 2 1 heaped: 0 2 1 and 1 1 1", List.of(List.of(100, 0, 2, 1), List.of(100, 1, 1, 1)),
                () -> reductionCodes(heaps, 0));
    }

    private static void reductionsOfNewTypes() {
        says(21, "The reductions of a value are values of the same type");
        DataMaker x = trees(0);
        x.select(0, 1);
        due("a fork, number 1", List.of(0), () -> reductionsOf(x));
        x.addConstructor(0, NO, NO, NO, 0);
        x.select(0, 1);
        due("a second leaf, which is now number 1", List.of(), () -> reductionsOf(x));
        x.addConstructor(0, 0, NO, NO, 0);
        x.select(0, 2);
        due("a leaf in a box, which is now number 2", List.of(0), () -> reductionsOf(x));
        x.select(0, 3);
        due("the second leaf in a box", List.of(1), () -> reductionsOf(x));
        DataMaker y = lists(0);
        y.select(0, 12);
        due("2 2 of 0 to 2", 6, y::reductionCount);
        y.setRange(2, 2);
        y.select(0, 2);
        due("2 2 of 2 alone", List.of(1, 0), () -> reductionsOf(y));
    }

    private static void reductionRefuses() {
        says(21, "Throws IndexOutOfBoundsException if there is no such reduction");
        for (int index : NO_INDEXES) {
            refused("reduction(" + index + ")", NO_INDEX, SelectedEdgeTests::busyLists, x -> x.reduction(index));
        }
        DataMaker x = busyLists();
        due("1 2: 2, nil, 0 2, 1 0 and 1 1", 5, x::reductionCount);
        due("reduction(4)", 8, () -> x.reduction(4));
        due("reduction(5)", NO_INDEX, () -> x.reduction(5));
        refused("reduction(5) of 5", NO_INDEX, SelectedEdgeTests::busyLists, y -> y.reduction(5));
        x.select(0, 1);
        due("reduction(0) of a value with one", 0, () -> x.reduction(0));
        due("reduction(1) behind a value with more", NO_INDEX, () -> x.reduction(1));
        due("the selection stays", 1, x::number);
    }

    // ---- promise 22: reduce

    private static void reduceStaysWhereItIs() {
        says(22, "as long as the property is false of the value");
        DataMaker x = lists(0);
        readAll(x, 0, listCode(1, 2));
        due("1 2 is in order, though", 0, () -> x.reduce(1));
        due("it stays", 9, x::number);
        readAll(x, 0, listCode(1, 1));
        due("1 1 is even, though 1 is a reduction that is not", 0, () -> x.reduce(5));
        due("it stays", 8, x::number);
        x.select(0, 0);
        for (int p = 1; p <= 5; p++) {
            int property = p;
            due("nil, property " + p, 0, () -> x.reduce(property));
        }
        due("nil stays", 0, x::number);
        says(22, "and false of at least one of its reductions");
        readAll(x, 0, listCode(0, 0));
        due("0 0 is not in order, but 0 and nil are", 0, () -> x.reduce(1));
        due("it stays", 4, x::number);
        x.select(0, 2);
        due("1 is odd, but nil and 0 are even", 0, () -> x.reduce(5));
        due("it stays", 2, x::number);
        DataMaker t = trees(0);
        t.select(0, 2);
        due("(leaf, fork) is not level, but leaf and fork are", 0, () -> t.reduce(3));
        due("it stays", 2, t::number);
        DataMaker y = triples(0);
        y.setRange(1, 1);
        y.select(0, 0);
        due("1 1 1 is odd, and has no reductions", 0, () -> y.reduce(5));
        due("it stays", 0, y::number);
    }

    private static void reduceGoesOn() {
        says(22, "Returns how often another value was selected.");
        DataMaker x = lists(0);
        x.select(0, 120);
        due("2 2 2 2: 2 2 2, 2 2, 2 0, 0 0", 4, () -> x.reduce(1));
        due("0 0", 4, x::number);
        due("digest() with 0 0", digestOf(0, 2, 1, 2, 0, -1, -1, -1, 0, 0, 9, 0, -1, 0, 0, 101, 0, 101, 0, 100),
                x::digest);
        due("once more", 0, () -> x.reduce(1));
        readAll(x, 0, listCode(2, 1));
        due("2 1 is odd: 1", 1, () -> x.reduce(5));
        due("1", 2, x::number);
        DataMaker t = trees(0);
        t.select(0, 4);
        due("(leaf, (leaf, fork)) is not level: (leaf, fork)", 1, () -> t.reduce(3));
        due("(leaf, fork)", 2, t::number);
        DataMaker y = triples(0);
        y.setRange(0, 5);
        y.select(0, 215);
        due("5 5 5 is odd: 1 5 5, 1 1 5, 1 1 1", 3, () -> y.reduce(5));
        due("1 1 1", List.of(100, 1, 1, 1), () -> codeOf(y));
        DataMaker z = lists(0);
        z.setRange(0, 1);
        z.select(0, 254);
        due("1 1 1 1 1 1 1 is odd: five, three, one of them", 3, () -> z.reduce(5));
        due("1", List.of(101, 1, 100), () -> codeOf(z));
    }

    private static void reduceTakesTheFirst() {
        says(22, "the first reduction of which it is false is selected");
        DataMaker x = lists(0);
        readAll(x, 0, listCode(0, 2, 1));
        due("0 2 1 is not in order: 2 1, 1 1, 1 0, 0 0", 4, () -> x.reduce(1));
        due("0 0", List.of(101, 0, 101, 0, 100), () -> codeOf(x));
        DataMaker y = lists(0);
        readAll(y, 0, listCode(2, 0));
        due("2 0 is not heaped: 1 0, as 0 0 is", 1, () -> y.reduce(2));
        due("1 0", 7, y::number);
        DataMaker t = trees(0);
        t.addConstructor(0, INT, 0, 0, 0);
        readAll(t, 0, 102, 2, 101, 100, 100, 100);
        due("2 (fork, leaf) is not level: 0 (fork, leaf)", 1, () -> t.reduce(3));
        due("0 (fork, leaf)", List.of(102, 0, 101, 100, 100, 100), () -> codeOf(t));
    }

    private static void reduceRefuses() {
        says(22, "Throws IllegalArgumentException if property is not 1 to 5");
        for (int property : NO_PROPERTIES) {
            refused("reduce(" + property + ")", NO_ARGUMENT, SelectedEdgeTests::busyLists, x -> x.reduce(property));
            refused("reduce(" + property + ")", NO_ARGUMENT, SelectedEdgeTests::busyTrees, x -> x.reduce(property));
        }
        says(22, "Makes a value that is against a property smaller");
        DataMaker x = busyLists();
        x.reduce(5);
        due("what is told stays", 6, () -> x.read(0));
    }

    // ---- promise 23: digest

    private static void digestOfEachPart() {
        says(23, "the least and the greatest number of the range; the number of types");
        DataMaker x = new DataMaker();
        due("a new object", digestOf(0, 2, 0, 0, 0), x::digest);
        x.setRange(5, 5);
        due("the greatest range", digestOf(5, 5, 0, 0, 0), x::digest);
        x.setRange(0, 0);
        due("the least range", digestOf(0, 0, 0, 0, 0), x::digest);
        for (int types = 1; types <= 4; types++) {
            x.addType();
            due(types + " types", digestOf(0, 0, types, 0, 0), x::digest);
        }
        says(23, "the number of constructors, and for each of them its type, its three parameters, and its condition");
        x.addConstructor(3, NO, NO, NO, 5);
        due("a constructor without parameters", digestOf(0, 0, 4, 1, 3, -1, -1, -1, 5, 0), x::digest);
        x.addConstructor(0, INT, 3, NO, 0);
        due("a constructor with two", digestOf(0, 0, 4, 2, 3, -1, -1, -1, 5, 0, 9, 3, -1, 0, 0), x::digest);
        due("six constructors", digestOf(0, 2, 4, 6, 0, -1, -1, -1, 0, 0, 9, 0, -1, 0, 1, 0, -1, -1, 1,
                2, 1, 9, -1, 2, 1, 9, 9, -1, 5, 2, 0, 0, -1, 3, 5, 101, 1, 101, 2, 100), () -> fullLists().digest());
        says(23, "the number of numbers that are told");
        for (int told = 1; told <= 40; told++) {
            x.tell(told % 2 == 0 ? 105 : 3);
            due(told + " told", digestOf(0, 0, 4, 2, 3, -1, -1, -1, 5, 0, 9, 3, -1, 0, told), x::digest);
        }
    }

    private static void digestOfTheSelection() {
        says(23, "if a value is selected, the numbers of its code");
        DataMaker x = lists(0);
        x.select(0, 0);
        due("nil", digestOf(0, 2, 1, 2, 0, -1, -1, -1, 0, 0, 9, 0, -1, 0, 0, 100), x::digest);
        due("asked again", digestOf(0, 2, 1, 2, 0, -1, -1, -1, 0, 0, 9, 0, -1, 0, 0, 100), x::digest);
        x.select(0, 3);
        due("2", digestOf(0, 2, 1, 2, 0, -1, -1, -1, 0, 0, 9, 0, -1, 0, 0, 101, 2, 100), x::digest);
        x.select(0, 0);
        due("nil behind a longer one", digestOf(0, 2, 1, 2, 0, -1, -1, -1, 0, 0, 9, 0, -1, 0, 0, 100), x::digest);
        x.addType();
        due("none behind addType", digestOf(0, 2, 2, 2, 0, -1, -1, -1, 0, 0, 9, 0, -1, 0, 0), x::digest);
        DataMaker y = longChains();
        y.select(0, 7);
        due("the longest code", digestOf(5, 5, 1, 2, 0, 9, 9, 9, 0, 0, 9, 9, 0, 0, 0, 101, 5, 5, 101, 5, 5, 101, 5, 5,
                101, 5, 5, 101, 5, 5, 101, 5, 5, 101, 5, 5, 100, 5, 5, 5), y::digest);
        says(23, "Computes a checksum.");
        DataMaker z = busyLists();
        z.digest();
        due("all that follows a digest", traceOf(busyLists()), () -> traceOf(z));
    }

    private static void digestWrapsAround() {
        says(23, "d becomes d * 31 + x, which wraps around as a 64-bit integer");
        due("5 numbers: 137 * 31^5 + 2 * 31^3", 3922253269L, () -> new DataMaker().digest());
        due("10 numbers, more than 32 bits", 112290809497608138L, () -> {
            DataMaker x = new DataMaker();
            x.addType();
            x.addConstructor(0, NO, NO, NO, 0);
            return x.digest();
        });
        due("15 numbers: 3214790566427734426346397 without its higher bits", 2689726076028019613L,
                () -> lists(0).digest());
    }
}
