import java.util.ArrayList;
import java.util.List;

/**
 * Each sentence of the description that names an edge: values, their sizes, conditions and order,
 * and the selected value. A check names the promise by which the sentence is seen.
 */
public final class DescriptionEdgeTests extends Checks {
    public static void main(String[] args) {
        sizes();
        intsFromLeftToRight();
        orderCondition();
        heapWithoutNumber();
        heapWithNumber();
        levelCondition();
        balanceCondition();
        evenCondition();
        noneCondition();
        conditionsOfAllValuesWithin();
        conditionsAreOfTheirConstructors();
        orderOfSizesAndConstructors();
        orderOfArguments();
        orderByOwnNumbers();
        selectionByEachCall();
        selectionStays();
        selectionEnds();
        finish("edges of the description");
    }

    /** One constructor of a type of its own, with a list and numbers in a given order. */
    private static DataMaker withList(int first, int second, int third, int condition) {
        DataMaker x = lists(0);
        x.addType();
        x.addConstructor(1, first, second, third, condition);
        return x;
    }

    // ---- values

    private static void sizes() {
        says(10, "The size of a value is 1 plus the sum of the sizes of the arguments that are values");
        due("three numbers", 1, () -> triples(0).select(0, 26));
        due("no arguments", 1, () -> trees(0).select(0, 0));
        due("two leaves", 3, () -> trees(0).select(0, 1));
        due("two forks", 7, () -> trees(0).select(0, 6));
        due("a number between two lists", 3, () -> withList(0, INT, 0, 0).select(1, 0));
        says(7, "The size of a value is 1 plus the sum of the sizes of the arguments that are values");
        DataMaker x = withList(0, INT, 0, 0);
        due("nil, a number, nil", 3, () -> x.count(1, 3));
        due("and one of the lists has a number", 18, () -> x.count(1, 4));
        due("and the lists have two numbers", 81, () -> x.count(1, 5));
    }

    private static void intsFromLeftToRight() {
        says(19, "The ints of a value are the numbers in it, from left to right: those of its arguments, one after the other.");
        DataMaker x = withList(0, INT, INT, 0);
        readAll(x, 1, 102, 101, 0, 100, 1, 2);
        due("(0) 1 2 is in order", true, () -> x.holds(1));
        readAll(x, 1, 102, 101, 1, 100, 0, 2);
        due("(1) 0 2 is not", false, () -> x.holds(1));
        DataMaker y = withList(INT, 0, INT, 0);
        readAll(y, 1, 102, 0, 101, 1, 100, 2);
        due("0 (1) 2 is in order", true, () -> y.holds(1));
        readAll(y, 1, 102, 1, 101, 0, 100, 2);
        due("1 (0) 2 is not", false, () -> y.holds(1));
        readAll(y, 1, 102, 0, 101, 2, 100, 1);
        due("0 (2) 1 is not", false, () -> y.holds(1));
        readAll(y, 1, 102, 0, 100, 0);
        due("0 () 0 is not", false, () -> y.holds(1));
        readAll(y, 1, 102, 0, 100, 1);
        due("0 () 1 is in order", true, () -> y.holds(1));
        DataMaker z = withList(0, 0, INT, 0);
        readAll(z, 1, 102, 101, 0, 100, 101, 1, 100, 2);
        due("(0) (1) 2 is in order", true, () -> z.holds(1));
        readAll(z, 1, 102, 101, 1, 100, 101, 1, 100, 2);
        due("(1) (1) 2 is not", false, () -> z.holds(1));
        readAll(z, 1, 102, 101, 1, 101, 0, 100, 100, 2);
        due("(1 0) () 2 is not", false, () -> z.holds(1));
    }

    // ---- conditions

    private static void orderCondition() {
        says(7, "1 ORDER: its ints are in strictly ascending order.");
        due("triples of 0 to 2", 1, () -> triples(1).count(0, 1));
        due("the triple", List.of(100, 0, 1, 2), () -> codeAt(triples(1), 0, 0));
        DataMaker x = triples(1);
        x.setRange(0, 1);
        due("triples of 0 to 1", 0, () -> x.count(0, 1));
        x.setRange(0, 5);
        due("triples of 0 to 5", 20, () -> x.count(0, 1));
        due("without numbers: all trees", 9, () -> trees(1).total(0, 8));
        DataMaker y = lists(1);
        y.setRange(0, 5);
        due("lists: a value for each subset", 64, () -> y.total(0, 8));
        due("the list of all six numbers", 1, () -> y.count(0, 7));
        due("one number alone", 6, () -> y.count(0, 2));
        DataMaker z = withList(0, 0, NO, 1);
        due("(0) (0) and their like: only 01, 02, 12 of 9, and 3 + 3 with a pair in one list", 9,
                () -> z.count(1, 5));
    }

    private static void heapWithoutNumber() {
        says(7, "2 HEAP: its first argument that is a number, if there is one");
        due("trees without numbers", 9, () -> trees(2).total(0, 8));
        DataMaker x = withList(0, 0, NO, 2);
        due("two lists, whatever is in them", 27, () -> x.count(1, 5));
        says(19, "2 HEAP: its first argument that is a number, if there is one");
        readAll(x, 1, 102, 101, 2, 100, 101, 0, 100);
        due("(2) (0)", true, () -> x.holds(2));
    }

    private static void heapWithNumber() {
        says(7, "is not greater than any of its ints");
        due("triples: 9 + 4 + 1", 14, () -> triples(2).count(0, 1));
        DataMaker same = triples(2);
        same.setRange(3, 3);
        due("3 3 3", 1, () -> same.count(0, 1));
        says(19, "is not greater than any of its ints");
        DataMaker x = triples(0);
        readAll(x, 0, 100, 1, 1, 1);
        due("1 1 1", true, () -> x.holds(2));
        readAll(x, 0, 100, 1, 0, 1);
        due("1 0 1", false, () -> x.holds(2));
        readAll(x, 0, 100, 1, 1, 0);
        due("1 1 0", false, () -> x.holds(2));
        readAll(x, 0, 100, 0, 2, 1);
        due("0 2 1", true, () -> x.holds(2));
        says(19, "2 HEAP: its first argument that is a number");
        DataMaker y = withList(0, INT, INT, 0);
        readAll(y, 1, 102, 101, 1, 100, 1, 2);
        due("(1) 1 2", true, () -> y.holds(2));
        readAll(y, 1, 102, 101, 0, 100, 1, 2);
        due("(0) 1 2: an int before the number is less", false, () -> y.holds(2));
        readAll(y, 1, 102, 101, 2, 100, 1, 2);
        due("(2) 1 2: the first int is no argument", true, () -> y.holds(2));
        readAll(y, 1, 102, 101, 2, 100, 2, 1);
        due("(2) 2 1: the second number is less", false, () -> y.holds(2));
        readAll(y, 1, 102, 101, 2, 101, 0, 100, 1, 1);
        due("(2 0) 1 1: an int deep in a part is less", false, () -> y.holds(2));
        readAll(y, 1, 102, 101, 2, 101, 1, 100, 1, 1);
        due("(2 1) 1 1", true, () -> y.holds(2));
        DataMaker z = withList(INT, 0, 0, 0);
        readAll(z, 1, 102, 1, 100, 101, 0, 100);
        due("1 () (0): an int in the last part is less", false, () -> z.holds(2));
    }

    private static void levelCondition() {
        says(7, "3 LEVEL: its arguments that are values all have the same height.");
        due("trees", 3, () -> trees(3).total(0, 8));
        due("no values", 27, () -> triples(3).count(0, 1));
        due("one value", 121, () -> lists(3).total(0, 5));
        says(19, "3 LEVEL: its arguments that are values all have the same height.");
        DataMaker x = trees(0);
        boolean[] due = {true, true, false, false, false, false, true, false, false};
        for (int n = 0; n < due.length; n++) {
            x.select(0, n);
            due("the tree " + n, due[n], () -> x.holds(3));
        }
        DataMaker y = withList(0, INT, 0, 0);
        readAll(y, 1, 102, 101, 0, 100, 1, 101, 2, 100);
        due("a number between two lists of one", true, () -> y.holds(3));
        readAll(y, 1, 102, 100, 1, 101, 2, 100);
        due("a number between nil and a list of one", false, () -> y.holds(3));
    }

    private static void balanceCondition() {
        says(7, "4 BALANCE: the heights of its arguments that are values differ by at most 1.");
        due("trees of size 5", 2, () -> trees(4).count(0, 5));
        due("trees of size 7", 1, () -> trees(4).count(0, 7));
        due("no values", 27, () -> triples(4).count(0, 1));
        due("one value", 121, () -> lists(4).total(0, 5));
        says(19, "4 BALANCE: the heights of its arguments that are values differ by at most 1.");
        DataMaker x = trees(0);
        boolean[] due = {true, true, true, true, false, false, true, false, false};
        for (int n = 0; n < due.length; n++) {
            x.select(0, n);
            due("the tree " + n, due[n], () -> x.holds(4));
        }
        DataMaker y = withList(0, INT, 0, 0);
        readAll(y, 1, 102, 101, 0, 100, 1, 100);
        due("a list of one and nil", true, () -> y.holds(4));
        readAll(y, 1, 102, 101, 0, 101, 0, 100, 1, 100);
        due("a list of two and nil", false, () -> y.holds(4));
        readAll(y, 1, 102, 100, 1, 101, 0, 101, 0, 100);
        due("nil and a list of two", false, () -> y.holds(4));
    }

    private static void evenCondition() {
        says(7, "5 EVEN: the sum of its ints is even.");
        due("triples", 14, () -> triples(5).count(0, 1));
        due("without ints", 9, () -> trees(5).total(0, 8));
        DataMaker x = triples(5);
        x.setRange(1, 1);
        due("1 1 1", 0, () -> x.count(0, 1));
        x.setRange(4, 4);
        due("4 4 4", 1, () -> x.count(0, 1));
        says(19, "5 EVEN: the sum of its ints is even.");
        DataMaker y = withList(INT, 0, INT, 0);
        readAll(y, 1, 102, 1, 101, 0, 100, 1);
        due("1 (0) 1", true, () -> y.holds(5));
        readAll(y, 1, 102, 1, 101, 1, 100, 1);
        due("1 (1) 1", false, () -> y.holds(5));
        readAll(y, 1, 102, 1, 101, 1, 100, 0);
        due("1 (1) 0", true, () -> y.holds(5));
        readAll(y, 1, 102, 0, 101, 1, 100, 0);
        due("0 (1) 0", false, () -> y.holds(5));
    }

    private static void noneCondition() {
        says(7, "0 NONE is always true.");
        due("triples", 27, () -> triples(0).count(0, 1));
        due("trees", 9, () -> trees(0).total(0, 8));
        due("lists", 121, () -> lists(0).total(0, 5));
    }

    private static void conditionsOfAllValuesWithin() {
        says(7, "and for the constructor of the value, and those of all values in it, the condition is true");
        DataMaker x = new DataMaker();
        x.addType();
        x.addType();
        x.addConstructor(0, INT, INT, NO, 5);
        x.addConstructor(1, 0, NO, NO, 0);
        x.addConstructor(1, 1, NO, NO, 0);
        due("even pairs of 0 to 2", 5, () -> x.count(0, 1));
        due("boxes of them", 5, () -> x.count(1, 2));
        due("boxes of boxes", 5, () -> x.count(1, 3));
        due("boxes seven deep", 5, () -> x.count(1, 8));
        DataMaker y = new DataMaker();
        y.addType();
        y.addType();
        y.addConstructor(0, INT, INT, NO, 0);
        y.addConstructor(1, 0, NO, NO, 5);
        due("all pairs", 9, () -> y.count(0, 1));
        due("boxes that must be even", 5, () -> y.count(1, 2));
    }

    private static void conditionsAreOfTheirConstructors() {
        says(7, "A constructor has a condition, 0 to 5.");
        DataMaker x = new DataMaker();
        x.addType();
        x.addConstructor(0, INT, INT, NO, 1);
        x.addConstructor(0, INT, INT, NO, 2);
        x.addConstructor(0, INT, INT, NO, 5);
        x.addConstructor(0, INT, INT, NO, 3);
        due("3 in order, 6 heaped, 5 even and 9 level", 23, () -> x.count(0, 1));
        due("the last in order", List.of(100, 1, 2), () -> codeAt(x, 0, 2));
        due("the first heaped", List.of(101, 0, 0), () -> codeAt(x, 0, 3));
        due("the last heaped", List.of(101, 2, 2), () -> codeAt(x, 0, 8));
        due("the second even one", List.of(102, 0, 2), () -> codeAt(x, 0, 10));
        due("the last level one", List.of(103, 2, 2), () -> codeAt(x, 0, 22));
    }

    // ---- order

    private static List<List<Integer>> firstCodes(DataMaker x, int type, int count) {
        List<List<Integer>> codes = new ArrayList<>();
        for (int n = 0; n < count; n++) {
            codes.add(codeAt(x, type, n));
        }
        return codes;
    }

    private static void orderOfSizesAndConstructors() {
        says(10, "those of smaller size first; of the same size, those of constructors with smaller numbers first");
        DataMaker x = new DataMaker();
        x.addType();
        x.addConstructor(0, 0, NO, NO, 0);
        x.addConstructor(0, INT, NO, NO, 0);
        x.addConstructor(0, 0, NO, NO, 0);
        x.addConstructor(0, NO, NO, NO, 0);
        x.setRange(4, 5);
        due("sizes 1 and 2", List.of(List.of(101, 4), List.of(101, 5), List.of(103),
                List.of(100, 101, 4), List.of(100, 101, 5), List.of(100, 103),
                List.of(102, 101, 4), List.of(102, 101, 5), List.of(102, 103)), () -> firstCodes(x, 0, 9));
        due("the first of size 3", List.of(100, 100, 101, 4), () -> codeAt(x, 0, 9));
        due("the last of size 3", List.of(102, 102, 103), () -> codeAt(x, 0, 20));
    }

    private static void orderOfArguments() {
        says(10, "of the same constructor, the first argument that differs decides: the smaller number");
        DataMaker x = triples(0);
        x.setRange(1, 2);
        due("triples of 1 and 2", List.of(List.of(100, 1, 1, 1), List.of(100, 1, 1, 2), List.of(100, 1, 2, 1),
                List.of(100, 1, 2, 2), List.of(100, 2, 1, 1), List.of(100, 2, 1, 2), List.of(100, 2, 2, 1),
                List.of(100, 2, 2, 2)), () -> firstCodes(x, 0, 8));
        DataMaker y = withList(0, INT, NO, 0);
        y.setRange(0, 1);
        due("a list before its number", List.of(List.of(102, 100, 0), List.of(102, 100, 1),
                List.of(102, 101, 0, 100, 0), List.of(102, 101, 0, 100, 1), List.of(102, 101, 1, 100, 0),
                List.of(102, 101, 1, 100, 1)), () -> firstCodes(y, 1, 6));
        DataMaker z = withList(INT, 0, NO, 0);
        z.setRange(0, 1);
        due("a number before its list", List.of(List.of(102, 0, 100), List.of(102, 1, 100),
                List.of(102, 0, 101, 0, 100), List.of(102, 0, 101, 1, 100), List.of(102, 1, 101, 0, 100),
                List.of(102, 1, 101, 1, 100)), () -> firstCodes(z, 1, 6));
    }

    private static void orderByOwnNumbers() {
        says(10, "or the value whose own number in its type is smaller");
        DataMaker x = new DataMaker();
        x.addType();
        x.addType();
        x.addConstructor(0, 0, NO, NO, 0);
        x.addConstructor(0, NO, NO, NO, 0);
        x.addConstructor(1, 0, 0, NO, 0);
        due("the smaller first argument first, though its constructor has a greater number",
                List.of(List.of(102, 101, 101), List.of(102, 101, 100, 101), List.of(102, 100, 101, 101),
                        List.of(102, 101, 100, 100, 101), List.of(102, 100, 101, 100, 101),
                        List.of(102, 100, 100, 101, 101)), () -> firstCodes(x, 1, 6));
        DataMaker y = new DataMaker();
        y.addType();
        y.addType();
        y.addType();
        y.addConstructor(1, NO, NO, NO, 0);
        y.addConstructor(0, NO, NO, NO, 0);
        y.addConstructor(1, NO, NO, NO, 0);
        y.addConstructor(0, NO, NO, NO, 0);
        y.addConstructor(2, 1, 0, NO, 0);
        due("numbers are those in the type of the argument", List.of(List.of(104, 100, 101), List.of(104, 100, 103),
                List.of(104, 102, 101), List.of(104, 102, 103)), () -> firstCodes(y, 2, 4));
    }

    // ---- the selected value

    private static final String LATEST = "is that of the latest call of select, draw, read or reduce that said so";

    private static void selectionByEachCall() {
        says(16, LATEST);
        DataMaker x = lists(0);
        x.addType();
        x.addConstructor(1, 0, NO, NO, 0);
        x.select(0, 12);
        due("select", List.of(101, 2, 101, 2, 100), () -> codeOf(x));
        x.select(1, 1);
        due("select of another type", List.of(102, 101, 0, 100), () -> codeOf(x));
        x.draw(0, 1, 7);
        due("draw", List.of(100), () -> codeOf(x));
        readAll(x, 1, 102, 101, 2, 100);
        due("read", List.of(102, 101, 2, 100), () -> codeOf(x));
        readAll(x, 0, listCode(2, 1));
        x.reduce(5);
        due("reduce", List.of(101, 1, 100), () -> codeOf(x));
        x.select(0, 3);
        due("select behind reduce", List.of(101, 2, 100), () -> codeOf(x));
    }

    private static void selectionStays() {
        says(16, LATEST);
        DataMaker x = busyLists();
        x.typeCount();
        x.horizon();
        x.count(0, 1);
        x.total(0, 5);
        x.firstAgainst(0, 5, 5);
        x.tell(5);
        x.length();
        x.code(0);
        x.number();
        x.height();
        x.mean();
        x.holds(5);
        x.reductionCount();
        x.reduction(0);
        x.digest();
        due("behind each call that selects nothing", 9, x::number);
        x.read(0);
        due("behind a read of no code", 9, x::number);
        due("a number that is too great", NO_STATE, () -> x.select(0, 121));
        due("a negative number", NO_INDEX, () -> x.select(0, -1));
        due("a draw beyond the horizon", NO_STATE, () -> x.draw(0, 6, 0));
        due("a draw of no size", NO_ARGUMENT, () -> x.draw(0, 0, 0));
        due("a reading beyond the horizon", NO_STATE, () -> readAll(x, 0, listCode(0, 0, 0, 0, 0)));
        due("a reduce of no property", NO_ARGUMENT, () -> x.reduce(0));
        due("a reduce of a value that has the property", 0, () -> x.reduce(1));
        due("behind each call that did not say so", 9, x::number);
        due("its code", List.of(101, 1, 101, 2, 100), () -> codeOf(x));
    }

    private static void selectionEnds() {
        says(16, "none is selected at first, and behind each call of setRange, addType or addConstructor that throws no exception");
        DataMaker x = busyLists();
        due("a range that is refused", NO_ARGUMENT, () -> x.setRange(2, 1));
        due("a constructor that is refused", NO_ARGUMENT, () -> x.addConstructor(0, NO, NO, NO, 6));
        due("a constructor of no type", NO_INDEX, () -> x.addConstructor(1, NO, NO, NO, 0));
        due("the selection behind them", 9, x::number);
        due("another range", true, () -> x.setRange(0, 1));
        due("none behind it", NO_STATE, x::number);
        x.select(0, 1);
        due("the same range", false, () -> x.setRange(0, 1));
        due("none behind it", NO_STATE, x::number);
        x.select(0, 1);
        due("a constructor", 2, () -> x.addConstructor(0, NO, NO, NO, 0));
        due("none behind it", NO_STATE, x::number);
        for (int type = 1; type <= 3; type++) {
            x.select(0, 1);
            due("a type", type, x::addType);
            due("none behind it", NO_STATE, x::number);
        }
        x.select(0, 1);
        due("a fifth type", NO_STATE, x::addType);
        due("the selection behind it", 1, x::number);
    }
}
