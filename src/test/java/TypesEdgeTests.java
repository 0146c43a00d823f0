import java.util.List;

/** Each sentence that names an edge of promises 1 to 5: a new object, its range, types and constructors. */
public final class TypesEdgeTests extends Checks {
    private static final int[] NO_TYPES = {-1, -2, 4, 5, 9, 100, LEAST, GREATEST};

    public static void main(String[] args) {
        newObjectHasNoTypes();
        newObjectHasNothingElse();
        newObjectsAreApart();
        rangesThatAreAllowed();
        rangesThatAreRefused();
        rangeIsAnotherOne();
        rangeReachesTheValues();
        rangeAndWhatIsTold();
        typesAreNumbered();
        fifthType();
        typeWithoutConstructors();
        typeLeavesTheRest();
        constructorsAreNumbered();
        constructorOfNoType();
        parametersOneByOne();
        allParameters();
        parameterOfALaterType();
        conditionsOfConstructors();
        seventhConstructor();
        constructorReachesTheValues();
        firstNamedOfConstructor();
        typeCountAtItsEdges();
        finish("edges of promises 1 to 5");
    }

    // ---- promise 1: a new object

    private static void newObjectHasNoTypes() {
        says(1, "Creates a generator without types.");
        due("typeCount()", 0, () -> new DataMaker().typeCount());
        for (int type : new int[] {0, 1, 3, -1, 4, 9, LEAST, GREATEST}) {
            refused("addConstructor of type " + type, NO_INDEX, DataMaker::new,
                    x -> x.addConstructor(type, NO, NO, NO, 0));
            refused("count of type " + type, NO_INDEX, DataMaker::new, x -> x.count(type, 1));
            refused("total of type " + type, NO_INDEX, DataMaker::new, x -> x.total(type, 1));
            refused("firstAgainst of type " + type, NO_INDEX, DataMaker::new, x -> x.firstAgainst(type, 1, 1));
            refused("select of type " + type, NO_INDEX, DataMaker::new, x -> x.select(type, 0));
            refused("draw of type " + type, NO_INDEX, DataMaker::new, x -> x.draw(type, 1, 0));
            refused("read of type " + type, NO_INDEX, DataMaker::new, x -> x.read(type));
        }
        says(1, "The horizon is the greatest size h, from 0 to 8");
        due("horizon() without any value", 8, () -> new DataMaker().horizon());
    }

    private static void newObjectHasNothingElse() {
        says(1, "none is selected at first");
        refused("length()", NO_STATE, DataMaker::new, x -> x.length());
        refused("code(0)", NO_STATE, DataMaker::new, x -> x.code(0));
        refused("number()", NO_STATE, DataMaker::new, x -> x.number());
        refused("height()", NO_STATE, DataMaker::new, x -> x.height());
        refused("mean()", NO_STATE, DataMaker::new, x -> x.mean());
        refused("holds(1)", NO_STATE, DataMaker::new, x -> x.holds(1));
        refused("reductionCount()", NO_STATE, DataMaker::new, x -> x.reductionCount());
        refused("reduction(0)", NO_STATE, DataMaker::new, x -> x.reduction(0));
        refused("reduce(1)", NO_STATE, DataMaker::new, x -> x.reduce(1));
        says(1, "INT has the numbers of a range, from 0 to 5 at most (0 to 2 at first).");
        due("setRange(0, 2)", false, () -> new DataMaker().setRange(0, 2));
        due("setRange(0, 1)", true, () -> new DataMaker().setRange(0, 1));
        due("setRange(1, 2)", true, () -> new DataMaker().setRange(1, 2));
        due("a triple of the least numbers", List.of(100, 0, 0, 0), () -> codeAt(triples(0), 0, 0));
        due("a triple of the greatest numbers", List.of(100, 2, 2, 2), () -> codeAt(triples(0), 0, 26));
        says(1, "numbered from 0");
        due("the first type", 0, () -> new DataMaker().addType());
        due("the first that is told is one", 1, () -> new DataMaker().tell(100));
        says(1, "Computes a checksum.");
        due("digest()", digestOf(0, 2, 0, 0, 0), () -> new DataMaker().digest());
    }

    private static void newObjectsAreApart() {
        says(1, "Creates a generator without types.");
        DataMaker first = fullLists();
        DataMaker second = new DataMaker();
        due("a new object beside a full one", traceOf(new DataMaker()), () -> traceOf(second));
        due("the full one beside a new one", traceOf(fullLists()), () -> traceOf(first));
    }

    // ---- promise 2: setRange

    private static boolean isRange(int low, int high) {
        return low >= 0 && high <= 5 && low <= high;
    }

    private static void rangesThatAreAllowed() {
        says(2, "INT has the numbers of a range, from 0 to 5 at most");
        for (int l = 0; l <= 5; l++) {
            for (int h = l; h <= 5; h++) {
                int low = l;
                int high = h;
                String name = "setRange(" + low + ", " + high + ")";
                DataMaker x = new DataMaker();
                x.addType();
                x.addConstructor(0, INT, NO, NO, 0);
                due(name, low != 0 || high != 2, () -> x.setRange(low, high));
                due(name + " again", false, () -> x.setRange(low, high));
                due(name + ", its numbers", high - low + 1, () -> x.count(0, 1));
                due(name + ", its least number", List.of(100, low), () -> codeAt(x, 0, 0));
                due(name + ", its greatest number", List.of(100, high), () -> codeAt(x, 0, high - low));
                due(name + ", none behind it", NO_INDEX, () -> x.select(0, high - low + 1));
            }
        }
    }

    private static void rangesThatAreRefused() {
        says(2, "Throws IllegalArgumentException if low is negative, high is greater than 5, or low is greater than high");
        int[] ends = {LEAST, -2, -1, 0, 1, 2, 3, 4, 5, 6, 7, GREATEST};
        for (int low : ends) {
            for (int high : ends) {
                if (!isRange(low, high)) {
                    refused("setRange(" + low + ", " + high + ")", NO_ARGUMENT, TypesEdgeTests::busyLists,
                            x -> x.setRange(low, high));
                }
            }
        }
        DataMaker x = new DataMaker();
        x.setRange(3, 4);
        due("setRange(-1, 4), high as it is", NO_ARGUMENT, () -> x.setRange(-1, 4));
        due("setRange(3, 6), low as it is", NO_ARGUMENT, () -> x.setRange(3, 6));
        due("setRange(5, 4), high as it is", NO_ARGUMENT, () -> x.setRange(5, 4));
        due("setRange(3, 2), low as it is", NO_ARGUMENT, () -> x.setRange(3, 2));
        due("the range that stayed", false, () -> x.setRange(3, 4));
    }

    private static void rangeIsAnotherOne() {
        says(2, "Returns whether it is another range than before.");
        DataMaker x = new DataMaker();
        due("the one of a new object", false, () -> x.setRange(0, 2));
        due("another high", true, () -> x.setRange(0, 3));
        due("the same", false, () -> x.setRange(0, 3));
        due("another low", true, () -> x.setRange(1, 3));
        due("the same", false, () -> x.setRange(1, 3));
        due("both moved by one", true, () -> x.setRange(2, 4));
        due("back to an earlier one", true, () -> x.setRange(1, 3));
        due("one number alone", true, () -> x.setRange(3, 3));
        due("the same number alone", false, () -> x.setRange(3, 3));
        due("all numbers", true, () -> x.setRange(0, 5));
        due("back to the first of all", true, () -> x.setRange(0, 2));
    }

    private static void rangeReachesTheValues() {
        says(2, "Sets the range of INT.");
        DataMaker x = lists(0);
        due("horizon with 3 numbers", 5, x::horizon);
        x.setRange(0, 5);
        due("horizon with 6 numbers", 4, x::horizon);
        due("the lists with one of them", 6, () -> x.count(0, 2));
        x.setRange(4, 4);
        due("horizon with one number", 8, x::horizon);
        due("the list of one number", List.of(101, 4, 100), () -> codeAt(x, 0, 1));
        says(2, "none is selected at first, and behind each call of setRange, addType or addConstructor that throws no exception");
        DataMaker y = busyLists();
        y.setRange(0, 3);
        due("number() behind another range", NO_STATE, y::number);
        y.select(0, 1);
        y.setRange(0, 3);
        due("number() behind the same range", NO_STATE, y::number);
        due("digest() behind it", digestOf(0, 3, 1, 2, 0, -1, -1, -1, 0, 0, 9, 0, -1, 0, 5), y::digest);
    }

    private static void rangeAndWhatIsTold() {
        says(2, "Sets the range of INT.");
        DataMaker x = lists(0);
        tellAll(x, listCode(3));
        x.setRange(0, 3);
        due("what is told is read with the range that holds then", 4, () -> x.read(0));
        tellAll(x, listCode(0));
        x.setRange(1, 3);
        due("a number below it", -1, () -> x.read(0));
        tellAll(x, listCode(3));
        x.setRange(1, 2);
        due("a number above it", -1, () -> x.read(0));
    }

    // ---- promise 3: addType

    private static void typesAreNumbered() {
        says(3, "There are at most 4 types, numbered from 0");
        DataMaker x = new DataMaker();
        due("the first", 0, x::addType);
        x.addConstructor(0, NO, NO, NO, 0);
        due("the second, behind a constructor", 1, x::addType);
        due("the third", 2, x::addType);
        due("the fourth", 3, x::addType);
        due("a constructor of the fourth", 1, () -> x.addConstructor(3, 3, 2, INT, 0));
    }

    private static void fifthType() {
        says(3, "Throws IllegalStateException if there are 4 types");
        refused("a fifth type", NO_STATE, TypesEdgeTests::fullLists, DataMaker::addType);
        DataMaker x = fullLists();
        due("a fifth type", NO_STATE, x::addType);
        due("a fifth type again", NO_STATE, x::addType);
        due("typeCount() behind it", 4, x::typeCount);
        due("the selection behind it", 9, x::number);
        due("what is told behind it", 6, () -> x.read(0));
        due("the type 4", NO_INDEX, () -> x.count(4, 1));
    }

    private static void typeWithoutConstructors() {
        says(3, "Adds a type without constructors.");
        DataMaker x = trees(0);
        x.addType();
        for (int s = 1; s <= 8; s++) {
            int size = s;
            due("count(1, " + size + ")", 0, () -> x.count(1, size));
            due("total(1, " + size + ")", 0, () -> x.total(1, size));
            due("draw(1, " + size + ", 1)", NO_ELEMENT, () -> x.draw(1, size, 1));
            due("firstAgainst(1, 5, " + size + ")", -1, () -> x.firstAgainst(1, 5, size));
        }
        due("select(1, 0)", NO_INDEX, () -> x.select(1, 0));
        due("the code of a tree, read as of this type", -1, () -> readAll(x, 1, 100));
        due("the trees beside it", 9, () -> x.total(0, 8));
    }

    private static void typeLeavesTheRest() {
        says(3, "none is selected at first, and behind each call of setRange, addType or addConstructor that throws no exception");
        DataMaker x = busyLists();
        due("addType()", 1, x::addType);
        due("number()", NO_STATE, x::number);
        due("digest()", digestOf(0, 2, 2, 2, 0, -1, -1, -1, 0, 0, 9, 0, -1, 0, 5), x::digest);
        due("horizon()", 5, x::horizon);
        due("what was told before", 6, () -> x.read(0));
    }

    // ---- promise 4: addConstructor

    private static void constructorsAreNumbered() {
        says(4, "at most 6 constructors, numbered from 0 in the order of their creation");
        DataMaker x = new DataMaker();
        x.addType();
        x.addType();
        int[] types = {1, 0, 1, 1, 0, 0};
        for (int i = 0; i < 6; i++) {
            int type = types[i];
            due("a constructor of type " + type, i, () -> x.addConstructor(type, NO, NO, NO, 0));
        }
        due("the first of type 0", List.of(101), () -> codeAt(x, 0, 0));
        due("the last of type 0", List.of(105), () -> codeAt(x, 0, 2));
        due("the first of type 1", List.of(100), () -> codeAt(x, 1, 0));
        due("the last of type 1", List.of(103), () -> codeAt(x, 1, 2));
    }

    private static void constructorOfNoType() {
        says(4, "Throws IndexOutOfBoundsException if there is no such type");
        for (int type : NO_TYPES) {
            refused("type " + type + " of 1", NO_INDEX, TypesEdgeTests::busyLists,
                    x -> x.addConstructor(type, NO, NO, NO, 0));
            refused("type " + type + " of 4", NO_INDEX, TypesEdgeTests::fullLists,
                    x -> x.addConstructor(type, NO, NO, NO, 0));
        }
        refused("type 1 of 1", NO_INDEX, TypesEdgeTests::busyLists, x -> x.addConstructor(1, NO, NO, NO, 0));
        DataMaker x = lists(0);
        x.addType();
        due("type 1 of 2", 2, () -> x.addConstructor(1, NO, NO, NO, 0));
        due("type 2 of 2", NO_INDEX, () -> x.addConstructor(2, NO, NO, NO, 0));
    }

    private static void parametersOneByOne() {
        says(4, "Throws IllegalArgumentException if a parameter is neither a type, nor 9, nor -1");
        for (int parameter : new int[] {-2, -3, 1, 2, 3, 4, 5, 6, 7, 8, 10, 100, LEAST, GREATEST}) {
            refused("first " + parameter, NO_ARGUMENT, TypesEdgeTests::busyLists,
                    x -> x.addConstructor(0, parameter, NO, NO, 0));
            refused("second " + parameter, NO_ARGUMENT, TypesEdgeTests::busyLists,
                    x -> x.addConstructor(0, INT, parameter, NO, 0));
            refused("third " + parameter, NO_ARGUMENT, TypesEdgeTests::busyLists,
                    x -> x.addConstructor(0, INT, INT, parameter, 0));
        }
        says(4, "a parameter behind one that is -1 is not -1");
        int[][] gaps = {{NO, INT, NO}, {NO, 0, NO}, {NO, NO, INT}, {NO, NO, 0}, {INT, NO, INT}, {INT, NO, 0},
            {0, NO, INT}, {0, NO, 0}, {NO, INT, INT}, {NO, 0, 0}, {NO, INT, 0}, {NO, 0, INT}};
        for (int[] gap : gaps) {
            refused("a gap", NO_ARGUMENT, TypesEdgeTests::busyLists,
                    x -> x.addConstructor(0, gap[0], gap[1], gap[2], 0));
        }
        says(4, "all three are types");
        refused("one type three times", NO_ARGUMENT, TypesEdgeTests::busyLists, x -> x.addConstructor(0, 0, 0, 0, 0));
    }

    private static boolean areParameters(int first, int second, int third) {
        List<Integer> parameters = List.of(first, second, third);
        if (!List.of(-1, 0, 1, 9).containsAll(parameters)) {
            return false;
        }
        int end = parameters.indexOf(-1);
        boolean gap = end >= 0 && parameters.subList(end, 3).stream().anyMatch(p -> p != -1);
        return !gap && parameters.stream().anyMatch(p -> p == -1 || p == 9);
    }

    /** With two types: every row of three from types, no types, 9, -1 and their neighbours. */
    private static void allParameters() {
        says(4, "has at most 3 parameters; each of them is a type, or INT, and at most 2 are types");
        int[] choices = {-2, -1, 0, 1, 2, 8, 9, 10};
        for (int first : choices) {
            for (int second : choices) {
                for (int third : choices) {
                    DataMaker x = new DataMaker();
                    x.addType();
                    x.addType();
                    boolean good = areParameters(first, second, third);
                    String name = "addConstructor(1, " + first + ", " + second + ", " + third + ", 4)";
                    due(name, good ? (Object) 0 : NO_ARGUMENT, () -> x.addConstructor(1, first, second, third, 4));
                    due(name + ", then digest()", good ? digestOf(0, 2, 2, 1, 1, first, second, third, 4, 0)
                            : digestOf(0, 2, 2, 0, 0), x::digest);
                }
            }
        }
    }

    private static void parameterOfALaterType() {
        says(4, "Throws IllegalArgumentException if a parameter is neither a type, nor 9, nor -1");
        DataMaker x = new DataMaker();
        x.addType();
        due("type 1 as a parameter, before it is added", NO_ARGUMENT, () -> x.addConstructor(0, 1, NO, NO, 0));
        x.addType();
        due("type 1 as a parameter, behind it", 0, () -> x.addConstructor(0, 1, NO, NO, 0));
        x.addType();
        x.addType();
        due("type 3 as a parameter of 4", 1, () -> x.addConstructor(0, INT, 3, 2, 0));
        due("4 as a parameter with 4 types", NO_ARGUMENT, () -> x.addConstructor(0, INT, 4, 2, 0));
        due("no value has a part of a type without values", 0, () -> x.total(0, 8));
    }

    private static void conditionsOfConstructors() {
        says(4, "or condition is not 0 to 5");
        for (int c : new int[] {-1, 6, -2, 7, 9, 100, LEAST, GREATEST}) {
            refused("condition " + c, NO_ARGUMENT, TypesEdgeTests::busyLists,
                    x -> x.addConstructor(0, NO, NO, NO, c));
        }
        DataMaker x = new DataMaker();
        x.addType();
        for (int c = 0; c <= 5; c++) {
            int condition = c;
            due("condition " + c, condition, () -> x.addConstructor(0, NO, NO, NO, condition));
        }
    }

    private static void seventhConstructor() {
        says(4, "Throws IllegalStateException if there are 6 constructors");
        for (int type = 0; type < 4; type++) {
            int own = type;
            refused("a seventh, of type " + type, NO_STATE, TypesEdgeTests::fullLists,
                    x -> x.addConstructor(own, INT, own, NO, 1));
        }
        DataMaker x = fullLists();
        due("a seventh", NO_STATE, () -> x.addConstructor(3, NO, NO, NO, 0));
        due("a seventh again", NO_STATE, () -> x.addConstructor(3, NO, NO, NO, 0));
        due("a type that has none got none", 0, () -> x.total(3, 1));
        due("the selection stays", 9, x::number);
        due("what is told stays", 6, () -> x.read(0));
    }

    private static void constructorReachesTheValues() {
        says(4, "none is selected at first, and behind each call of setRange, addType or addConstructor that throws no exception");
        DataMaker x = busyLists();
        due("addConstructor", 2, () -> x.addConstructor(0, NO, NO, NO, 0));
        due("number()", NO_STATE, x::number);
        due("digest()", digestOf(0, 2, 1, 3, 0, -1, -1, -1, 0, 0, 9, 0, -1, 0, 0, -1, -1, -1, 0, 5), x::digest);
        says(4, "Adds a constructor.");
        due("nil and another nil", 2, () -> x.count(0, 1));
        due("horizon(): 2 + 6 + 18 + 54 + 162 = 242", 5, x::horizon);
        due("0 2 as told before: behind 2 and 6 lists, behind those of 0 0 and 0 1", 12, () -> x.read(0));
        tellAll(x, 103);
        x.addConstructor(0, NO, NO, NO, 0);
        due("a constructor that is told before it is there", 2, () -> x.read(0));
    }

    private static void firstNamedOfConstructor() {
        says(4, "If several exceptions apply, the one that is named first is thrown.");
        int[][] wrongArguments = {{7, NO, NO, 0}, {INT, 7, NO, 0}, {INT, INT, 7, 0}, {NO, INT, NO, 0},
            {INT, NO, INT, 0}, {0, 0, 0, 0}, {NO, NO, NO, 6}, {NO, NO, NO, -1}, {7, 7, 7, 7}};
        for (int[] a : wrongArguments) {
            refused("no type, wrong arguments", NO_INDEX, TypesEdgeTests::busyLists,
                    x -> x.addConstructor(1, a[0], a[1], a[2], a[3]));
            refused("no type, wrong arguments, 6 constructors", NO_INDEX, TypesEdgeTests::fullLists,
                    x -> x.addConstructor(4, a[0], a[1], a[2], a[3]));
            refused("no type (-1), wrong arguments, 6 constructors", NO_INDEX, TypesEdgeTests::fullLists,
                    x -> x.addConstructor(-1, a[0], a[1], a[2], a[3]));
            refused("wrong arguments, 6 constructors", NO_ARGUMENT, TypesEdgeTests::fullLists,
                    x -> x.addConstructor(3, a[0], a[1], a[2], a[3]));
        }
        refused("no type, 6 constructors", NO_INDEX, TypesEdgeTests::fullLists,
                x -> x.addConstructor(4, NO, NO, NO, 0));
    }

    // ---- promise 5: typeCount

    private static void typeCountAtItsEdges() {
        says(5, "Returns the number of types.");
        DataMaker x = new DataMaker();
        due("without types", 0, x::typeCount);
        for (int t = 1; t <= 4; t++) {
            x.addType();
            due("behind addType", t, x::typeCount);
            x.addConstructor(0, NO, NO, NO, 0);
            x.setRange(0, t);
            due("behind addConstructor and setRange", t, x::typeCount);
        }
        due("a fifth type", NO_STATE, x::addType);
        due("full", 4, x::typeCount);
    }
}
