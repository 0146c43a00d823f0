import java.util.List;

/** Each sentence that names an edge of promises 10 to 13: select, draw, tell and read. */
public final class SelectingEdgeTests extends Checks {
    private static final int[] NO_TYPES = {-1, 1, 2, 4, 9, LEAST, GREATEST};
    private static final int[] NO_SIZES = {0, 9, -1, 10, 100, LEAST, GREATEST};
    private static final int[] NO_CODES = {-1, 6, 7, 9, 10, 99, 106, 200, LEAST, GREATEST};

    public static void main(String[] args) {
        selectAtTheEnds();
        selectRefusesTypesAndNegatives();
        selectRefusesWithHorizonEight();
        selectRefusesWithLessHorizon();
        drawByTheSeed();
        drawOfOneSize();
        drawRefuses();
        firstNamedOfDraw();
        tellOfEachCode();
        tellRefuses();
        tellUpToForty();
        readOfNothing();
        readOfJustOne();
        readOfWrongNumbers();
        readOfMissingNumbers();
        readOfSizeEightAndNine();
        readAtTheHorizon();
        readBeyondTheHorizonWithConditions();
        readWithConditions();
        readAgainAndAgain();
        readRefusesTypes();
        readForgets();
        finish("edges of promises 10 to 13");
    }

    // ---- promise 10: select

    private static void selectAtTheEnds() {
        says(10, "The values of a type with sizes from 1 to 8 are numbered from 0");
        DataMaker x = lists(0);
        due("the first", 1, () -> x.select(0, 0));
        due("its code", List.of(100), () -> codeOf(x));
        due("the last up to the horizon", 5, () -> x.select(0, 120));
        due("its code", List.of(101, 2, 101, 2, 101, 2, 101, 2, 100), () -> codeOf(x));
        due("the last of size 3", 3, () -> x.select(0, 12));
        due("the first of size 4", 4, () -> x.select(0, 13));
        x.setRange(0, 1);
        due("the last of size 8", 8, () -> x.select(0, 254));
        due("its height", 8, x::height);
        DataMaker y = threeHundred();
        due("the last of 300", 1, () -> y.select(0, 299));
        due("its code", List.of(104, 5), () -> codeOf(y));
        due("its number", 299, y::number);
    }

    private static void selectRefusesTypesAndNegatives() {
        says(10, "Throws IndexOutOfBoundsException if there is no such type, number is negative");
        for (int type : NO_TYPES) {
            refused("select(" + type + ", 0)", NO_INDEX, SelectingEdgeTests::busyLists, x -> x.select(type, 0));
            refused("select(" + type + ", 0)", NO_INDEX, SelectingEdgeTests::busyTrees, x -> x.select(type, 0));
            refused("select(" + type + ", 0)", NO_INDEX, SelectingEdgeTests::tooMany, x -> x.select(type, 0));
        }
        for (int number : new int[] {-1, -2, -300, LEAST}) {
            refused("select(0, " + number + ")", NO_INDEX, SelectingEdgeTests::busyTrees, x -> x.select(0, number));
        }
        says(10, "If several exceptions apply, the one that is named first is thrown.");
        for (int number : new int[] {-1, -2, -300, LEAST}) {
            refused("select(0, " + number + "), horizon 5", NO_INDEX, SelectingEdgeTests::busyLists,
                    x -> x.select(0, number));
            refused("select(0, " + number + "), horizon 0", NO_INDEX, SelectingEdgeTests::tooMany,
                    x -> x.select(0, number));
        }
        refused("no type, no number, horizon 5", NO_INDEX, SelectingEdgeTests::busyLists, x -> x.select(1, 121));
        refused("no type, no number, horizon 0", NO_INDEX, SelectingEdgeTests::tooMany, x -> x.select(1, 0));
    }

    private static void selectRefusesWithHorizonEight() {
        says(10, "or the horizon is 8, and no value has this number");
        for (int number : new int[] {9, 10, 299, 300, 301, GREATEST}) {
            refused("select(0, " + number + ") of 9 trees", NO_INDEX, SelectingEdgeTests::busyTrees,
                    x -> x.select(0, number));
        }
        refused("select(0, 300) of 300 values", NO_INDEX, SelectingEdgeTests::threeHundred, x -> x.select(0, 300));
        DataMaker x = trees(0);
        x.addType();
        due("a type without values", NO_INDEX, () -> x.select(1, 0));
        DataMaker y = lists(0);
        y.setRange(0, 1);
        due("behind the last list", NO_INDEX, () -> y.select(0, 255));
        due("numbers of another type do not count", NO_INDEX, () -> {
            DataMaker z = trees(0);
            z.addType();
            z.addConstructor(1, NO, NO, NO, 0);
            return z.select(1, 1);
        });
    }

    private static void selectRefusesWithLessHorizon() {
        says(10, "Throws IllegalStateException if the horizon is less than 8, and no value up to it has this number");
        for (int number : new int[] {121, 122, 299, 300, 301, GREATEST}) {
            refused("select(0, " + number + ") of 121 lists", NO_STATE, SelectingEdgeTests::busyLists,
                    x -> x.select(0, number));
        }
        for (int number : new int[] {0, 1, 431, 432, GREATEST}) {
            refused("select(0, " + number + ") with horizon 0", NO_STATE, SelectingEdgeTests::tooMany,
                    x -> x.select(0, number));
        }
        DataMaker x = lists(0);
        x.addType();
        due("a type without values", NO_STATE, () -> x.select(1, 0));
        x.addConstructor(1, 0, NO, NO, 0);
        due("horizon 5", 5, x::horizon);
        due("a type that has 40 values up to the horizon: the last", 5, () -> x.select(1, 39));
        due("a type that has 40 values up to the horizon: one more", NO_STATE, () -> x.select(1, 40));
        due("the selection stays", 39, x::number);
        due("its type too", List.of(102, 101, 2, 101, 2, 101, 2, 100), () -> codeOf(x));
        DataMaker y = lists(0);
        y.addType();
        y.addConstructor(1, 0, NO, NO, 0);
        y.setRange(0, 1);
        due("horizon 7", 7, y::horizon);
        due("the last of size 7", 7, () -> y.select(0, 126));
        due("one of size 8", NO_STATE, () -> y.select(0, 127));
    }

    // ---- promise 11: draw

    private static void drawByTheSeed() {
        says(11, "which wraps around as a 64-bit integer, and y the number that its highest 31 bits are");
        // seed, and y modulo 81, counted with numbers that do not wrap around
        long[][] draws = {{0, 8}, {1, 32}, {-1, 49}, {2, 55}, {3, 14}, {Long.MAX_VALUE, 57}, {Long.MIN_VALUE, 0}};
        DataMaker x = lists(0);
        for (long[] draw : draws) {
            due("draw(0, 5, " + draw[0] + ")", 40 + (int) draw[1], () -> x.draw(0, 5, draw[0]));
            due("number()", 40 + (int) draw[1], x::number);
        }
        // the seeds for which y is least and greatest, with all or none of the lower 33 bits
        due("y is 0", 40, () -> x.draw(0, 5, -7379792620528906219L));
        due("y is 0, the lower bits are 1", 40, () -> x.draw(0, 5, 4483922187169113968L));
        due("y is 2^31 - 1", 40 + 64, () -> x.draw(0, 5, 3772156578477854741L));
        due("y is 2^31 - 1, the lower bits are 1", 40 + 64, () -> x.draw(0, 5, -2810872687533676688L));
        due("y is 2^30", 40 + 73, () -> x.draw(0, 5, 1843579416325869589L));
        due("y is 2^30 - 1", 40 + 72, () -> x.draw(0, 5, 6412499349321099120L));
        says(11, "the one with the index y modulo their number, from 0");
        due("y is 80: the last of the size", 120, () -> x.draw(0, 5, 4354731070698246165L));
        due("it is selected", List.of(101, 2, 101, 2, 101, 2, 101, 2, 100), () -> codeOf(x));
        due("y is 81: the first of the size", 40, () -> x.draw(0, 5, 5066496679389505392L));
        due("it is selected", List.of(101, 0, 101, 0, 101, 0, 101, 0, 100), () -> codeOf(x));
    }

    private static void drawOfOneSize() {
        says(11, "of the values with the size, in their order");
        DataMaker x = lists(0);
        for (long seed = -3; seed <= 3; seed++) {
            long asked = seed;
            due("one value of size 1", 0, () -> x.draw(0, 1, asked));
        }
        due("the least size", List.of(100), () -> codeOf(x));
        due("3 values of size 2, seed 0", 1 + 2, () -> x.draw(0, 2, 0));
        due("9 values of size 3, seed 0", 4 + 8, () -> x.draw(0, 3, 0));
        due("27 values of size 4, seed 2", 13 + 1, () -> x.draw(0, 4, 2));
        x.setRange(0, 1);
        due("128 values of size 8, y is 2^31 - 1", 127 + 127, () -> x.draw(0, 8, 3772156578477854741L));
        due("the greatest size", 8, x::height);
        DataMaker y = trees(0);
        due("5 trees of size 7, y is 81", 4 + 1, () -> y.draw(0, 7, 5066496679389505392L));
        due("300 values of size 1, y is 80", 80, () -> threeHundred().draw(0, 1, 4354731070698246165L));
    }

    private static void drawRefuses() {
        says(11, "Throws IndexOutOfBoundsException if there is no such type");
        for (int type : NO_TYPES) {
            refused("draw(" + type + ", 1, 1)", NO_INDEX, SelectingEdgeTests::busyLists, x -> x.draw(type, 1, 1));
        }
        says(11, "Throws IllegalArgumentException if size is not 1 to 8");
        for (int size : NO_SIZES) {
            refused("draw(0, " + size + ", 1)", NO_ARGUMENT, SelectingEdgeTests::busyTrees, x -> x.draw(0, size, 1));
        }
        says(11, "Throws IllegalStateException if size is greater than the horizon");
        for (int size = 1; size <= 8; size++) {
            int asked = size;
            refused("draw(0, " + size + ", 1), horizon 0", NO_STATE, SelectingEdgeTests::tooMany,
                    x -> x.draw(0, asked, 1));
            if (size > 5) {
                refused("draw(0, " + size + ", 1), horizon 5", NO_STATE, SelectingEdgeTests::busyLists,
                        x -> x.draw(0, asked, 1));
            }
        }
        says(11, "NoSuchElementException if no value of the type has this size");
        for (int size = 2; size <= 8; size += 2) {
            int asked = size;
            refused("no tree of size " + size, NO_ELEMENT, SelectingEdgeTests::busyTrees, x -> x.draw(0, asked, 1));
        }
        refused("300 values, none of size 8", NO_ELEMENT, SelectingEdgeTests::threeHundred, x -> x.draw(0, 8, 1));
        refused("a type without values, at the horizon", NO_ELEMENT, SelectingEdgeTests::listsAndAType,
                x -> x.draw(1, 5, 1));
    }

    /** The lists, one of them selected, and a type without constructors. */
    private static DataMaker listsAndAType() {
        DataMaker x = lists(0);
        x.addType();
        x.select(0, 9);
        tellAll(x, listCode(0, 2));
        return x;
    }

    private static void firstNamedOfDraw() {
        says(11, "If several exceptions apply, the one that is named first is thrown.");
        for (int size : NO_SIZES) {
            refused("no type, size " + size, NO_INDEX, SelectingEdgeTests::busyLists, x -> x.draw(1, size, 1));
            refused("size " + size + ", horizon 5", NO_ARGUMENT, SelectingEdgeTests::busyLists,
                    x -> x.draw(0, size, 1));
            refused("size " + size + ", horizon 0", NO_ARGUMENT, SelectingEdgeTests::tooMany,
                    x -> x.draw(0, size, 1));
            refused("size " + size + ", no value of the type", NO_ARGUMENT, SelectingEdgeTests::listsAndAType,
                    x -> x.draw(1, size, 1));
        }
        refused("no type, beyond the horizon", NO_INDEX, SelectingEdgeTests::busyLists, x -> x.draw(1, 6, 1));
        refused("no type, beyond horizon 0", NO_INDEX, SelectingEdgeTests::tooMany, x -> x.draw(-1, 1, 1));
        refused("no type, no value of the size", NO_INDEX, SelectingEdgeTests::busyTrees, x -> x.draw(1, 2, 1));
        refused("beyond the horizon, no value of the type", NO_STATE, SelectingEdgeTests::listsAndAType,
                x -> x.draw(1, 6, 1));
    }

    // ---- promise 12: tell

    private static void tellOfEachCode() {
        says(12, "Appends a number to what is told");
        DataMaker x = new DataMaker();
        int there = 0;
        for (int code : new int[] {0, 1, 2, 3, 4, 5, 100, 101, 102, 103, 104, 105}) {
            there++;
            due("tell(" + code + "), without types and constructors", there, () -> x.tell(code));
        }
        due("digest() tells how many", digestOf(0, 2, 0, 0, 12), x::digest);
        DataMaker y = busyLists();
        due("a number out of the range", 6, () -> y.tell(5));
        due("a constructor that is not there", 7, () -> y.tell(105));
        due("the selection stays", 9, y::number);
        says(12, "Returns how many there are.");
        DataMaker z = lists(0);
        due("the first", 1, () -> z.tell(100));
        due("nil, which is read", 0, () -> z.read(0));
        due("the first behind a reading", 1, () -> z.tell(100));
        due("the second", 2, () -> z.tell(100));
        due("two nils, which are not read", -1, () -> z.read(0));
        due("the first behind that", 1, () -> z.tell(100));
    }

    private static void tellRefuses() {
        says(12, "Throws IllegalArgumentException if code is not 0 to 5 or 100 to 105");
        for (int code : NO_CODES) {
            refused("tell(" + code + ")", NO_ARGUMENT, SelectingEdgeTests::busyLists, x -> x.tell(code));
            refused("tell(" + code + ") on a new object", NO_ARGUMENT, DataMaker::new, x -> x.tell(code));
        }
        for (int code = 6; code < 100; code++) {
            int asked = code;
            due("tell(" + code + ")", NO_ARGUMENT, () -> busyLists().tell(asked));
        }
        DataMaker x = busyLists();
        due("tell(-1) between", NO_ARGUMENT, () -> x.tell(-1));
        due("what is told is as before", 6, () -> x.read(0));
    }

    /** A list is selected, and 40 numbers are told. */
    private static DataMaker fortyTold() {
        DataMaker x = busyLists();
        for (int i = 5; i < 40; i++) {
            x.tell(i % 2 == 0 ? 100 : 5);
        }
        return x;
    }

    private static void tellUpToForty() {
        says(12, "at most 40 are kept for reading");
        DataMaker x = lists(0);
        for (int i = 1; i <= 40; i++) {
            due("number " + i, i, () -> x.tell(100));
        }
        due("digest()", digestOf(0, 2, 1, 2, 0, -1, -1, -1, 0, 0, 9, 0, -1, 0, 40), x::digest);
        says(12, "Throws IllegalStateException if there are 40");
        for (int code : new int[] {0, 5, 100, 105}) {
            refused("a 41st, " + code, NO_STATE, SelectingEdgeTests::fortyTold, y -> y.tell(code));
            due("a 41st, " + code, NO_STATE, () -> x.tell(code));
        }
        due("digest() behind them", digestOf(0, 2, 1, 2, 0, -1, -1, -1, 0, 0, 9, 0, -1, 0, 40), x::digest);
        says(12, "If several exceptions apply, the one that is named first is thrown.");
        for (int code : NO_CODES) {
            refused("a 41st, " + code, NO_ARGUMENT, SelectingEdgeTests::fortyTold, y -> y.tell(code));
        }
        says(13, "What was told is forgotten, also if it is no such code");
        due("40 nils", -1, () -> x.read(0));
        for (int i = 1; i <= 40; i++) {
            due("number " + i + " behind 40", i, () -> x.tell(100));
        }
        due("a 41st again", NO_STATE, () -> x.tell(100));
    }

    // ---- promise 13: read

    private static void readOfNothing() {
        says(13, "-1 if it is not the code of such a value");
        DataMaker x = lists(0);
        due("nothing told", -1, () -> x.read(0));
        due("no selection", NO_STATE, x::number);
        x.select(0, 9);
        due("nothing told, with a selection", -1, () -> x.read(0));
        due("the selection stays", 9, x::number);
        due("nothing told with horizon 0", -1, () -> tooMany().read(0));
    }

    private static void readOfJustOne() {
        says(13, "(just one, and nothing behind it)");
        DataMaker x = lists(0);
        due("nil", 0, () -> readAll(x, 0, 100));
        due("nil, nil", -1, () -> readAll(x, 0, 100, 100));
        due("nil and a number", -1, () -> readAll(x, 0, 100, 0));
        due("a list and nil", -1, () -> readAll(x, 0, 101, 1, 100, 100));
        due("a list and a number", -1, () -> readAll(x, 0, 101, 1, 100, 1));
        due("a list and the beginning of one", -1, () -> readAll(x, 0, 101, 1, 100, 101));
        due("two lists", -1, () -> readAll(x, 0, 101, 1, 100, 101, 1, 100));
        due("the greatest known list and nil", -1, () -> readAll(x, 0, 101, 2, 101, 2, 101, 2, 101, 2, 100, 100));
        due("a list beyond the horizon and nil", -1,
                () -> readAll(x, 0, 101, 0, 101, 0, 101, 0, 101, 0, 101, 0, 100, 100));
        due("the selection stays", 0, x::number);
        due("one list", 2, () -> readAll(x, 0, 101, 1, 100));
        due("it is selected", 2, x::number);
    }

    private static void readOfWrongNumbers() {
        says(13, "-1 if it is not the code of such a value");
        DataMaker x = lists(0);
        x.addType();
        x.addConstructor(1, 0, INT, 0, 0);
        x.select(0, 9);
        due("the beginning of a list", -1, () -> readAll(x, 0, 101));
        due("a longer beginning", -1, () -> readAll(x, 0, 101, 1));
        due("a list without its nil", -1, () -> readAll(x, 0, 101, 1, 101, 1));
        due("a number alone", -1, () -> readAll(x, 0, 0));
        due("a number before a list", -1, () -> readAll(x, 0, 0, 100));
        due("a number above the range", -1, () -> readAll(x, 0, 101, 3, 100));
        due("a value for a number", -1, () -> readAll(x, 0, 101, 100, 100));
        due("a number for a value", -1, () -> readAll(x, 0, 101, 1, 1));
        due("no such constructor", -1, () -> readAll(x, 0, 103));
        due("no such constructor within", -1, () -> readAll(x, 0, 101, 1, 103));
        due("the last constructor that can be told", -1, () -> readAll(x, 0, 105));
        due("a value of another type", -1, () -> readAll(x, 0, 102, 100, 1, 100));
        due("a list as of another type", -1, () -> readAll(x, 1, 100));
        due("a part of another type", -1, () -> readAll(x, 0, 101, 1, 102, 100, 1, 100));
        due("a part missing at the end", -1, () -> readAll(x, 1, 102, 100, 1));
        due("the number in the middle missing", -1, () -> readAll(x, 1, 102, 100, 100));
        due("the selection stays", 9, x::number);
        due("all of it", true, () -> readAll(x, 1, 102, 100, 1, 100) >= 0);
        due("it is selected", List.of(102, 100, 1, 100), () -> codeOf(x));
        x.setRange(1, 2);
        due("a number below the range", -1, () -> readAll(x, 0, 101, 0, 100));
        due("the least number of the range", 1, () -> readAll(x, 0, 101, 1, 100));
        due("the greatest number of the range", 2, () -> readAll(x, 0, 101, 2, 100));
    }

    private static void readOfMissingNumbers() {
        says(13, "-1 if it is not the code of such a value");
        DataMaker x = triples(0);
        due("three numbers are missing", -1, () -> readAll(x, 0, 100));
        due("two numbers are missing", -1, () -> readAll(x, 0, 100, 0));
        due("the last number is missing", -1, () -> readAll(x, 0, 100, 0, 0));
        due("none is missing", 0, () -> readAll(x, 0, 100, 0, 0, 0));
        due("the last number is missing, and was told before", -1, () -> readAll(x, 0, 100, 0, 0));
        due("a number more", -1, () -> readAll(x, 0, 100, 0, 0, 0, 0));
        DataMaker y = tooMany();
        due("the last number is missing, beyond the horizon", -1, () -> readAll(y, 0, 100, 0, 0));
        due("a number more, beyond the horizon", -1, () -> readAll(y, 0, 100, 0, 0, 0, 0));
    }

    private static void readOfSizeEightAndNine() {
        says(13, "Reads what was told as the code of a value of a type with a size of at most 8");
        DataMaker x = lists(0);
        x.setRange(0, 1);
        due("size 8, horizon 8", 254, () -> readAll(x, 0, listCode(1, 1, 1, 1, 1, 1, 1)));
        due("it is selected", 254, x::number);
        due("size 9, horizon 8", -1, () -> readAll(x, 0, listCode(0, 0, 0, 0, 0, 0, 0, 0)));
        due("size 19, horizon 8", -1, () -> readAll(x, 0, listCode(0, 0, 0, 0, 0, 0, 0, 0, 0, 0, 0, 0, 0, 0, 0, 0, 0, 0)));
        due("the selection stays", 254, x::number);
        DataMaker y = lists(0);
        due("size 8, horizon 5", NO_STATE, () -> readAll(y, 0, listCode(1, 1, 1, 1, 1, 1, 1)));
        due("size 9, horizon 5", -1, () -> readAll(y, 0, listCode(0, 0, 0, 0, 0, 0, 0, 0)));
        due("size 9 within a fork", -1, () -> readAll(trees(0), 0, 101, 101, 100, 101, 100, 100, 101, 100, 101, 100, 100));
        due("size 7 of a tree: the last", 8, () -> readAll(trees(0), 0, 101, 101, 101, 100, 100, 100, 100));
        DataMaker z = new DataMaker();
        z.addType();
        z.setRange(2, 2);
        z.addConstructor(0, INT, INT, INT, 0);
        z.addConstructor(0, INT, INT, 0, 0);
        due("the longest code, 25 numbers", 7, () -> readAll(z, 0, 101, 2, 2, 101, 2, 2, 101, 2, 2, 101, 2, 2,
                101, 2, 2, 101, 2, 2, 101, 2, 2, 100, 2, 2, 2));
        due("its length", 25, z::length);
        due("one link more", -1, () -> readAll(z, 0, 101, 2, 2, 101, 2, 2, 101, 2, 2, 101, 2, 2, 101, 2, 2,
                101, 2, 2, 101, 2, 2, 101, 2, 2, 100, 2, 2, 2));
    }

    private static void readAtTheHorizon() {
        says(13, "Throws IllegalStateException if it is the code of such a value, whose size is greater than the horizon");
        DataMaker x = lists(0);
        x.select(0, 9);
        due("size 5, horizon 5", 120, () -> readAll(x, 0, listCode(2, 2, 2, 2)));
        due("it is selected", 120, x::number);
        due("size 6, horizon 5", NO_STATE, () -> readAll(x, 0, listCode(2, 2, 2, 2, 2)));
        due("size 7, horizon 5", NO_STATE, () -> readAll(x, 0, listCode(0, 1, 2, 0, 1, 2)));
        due("size 8, horizon 5", NO_STATE, () -> readAll(x, 0, listCode(0, 1, 2, 0, 1, 2, 0)));
        due("size 1, horizon 0", NO_STATE, () -> readAll(tooMany(), 0, 101, 5, 5, 5));
        says(13, "What was told is forgotten, also if it is no such code, or if the size is greater than the horizon; then the selection stays.");
        due("the selection", 120, x::number);
        due("nothing is told any more", 1, () -> x.tell(100));
        due("what is told behind it", 0, () -> x.read(0));
        says(13, "-1 if it is not the code of such a value");
        due("beyond the horizon, but out of the range", -1, () -> readAll(x, 0, listCode(2, 2, 2, 2, 3)));
        due("beyond the horizon, but too short", -1, () -> readAll(x, 0, 101, 0, 101, 0, 101, 0, 101, 0, 101, 0));
        due("beyond the horizon, but with a constructor that is not there", -1,
                () -> readAll(x, 0, 102, 101, 0, 100, 101, 0, 100, 101, 0, 100));
        due("the same within", -1, () -> readAll(x, 0, 101, 0, 102, 101, 0, 100, 101, 0, 100, 101, 0, 100));
        due("beyond horizon 0, but out of the range", -1, () -> {
            DataMaker y = tooMany();
            y.setRange(0, 4);
            y.addConstructor(0, INT, INT, INT, 0);
            return readAll(y, 0, 100, 5, 0, 0);
        });
        due("the selection", 0, x::number);
    }

    /** Horizon 0; a HEAP of a triple and a number, and a BALANCE or LEVEL of it and a triple. */
    private static DataMaker unknownHeaps(int condition) {
        DataMaker x = tooMany();
        x.addType();
        x.addConstructor(1, 0, INT, NO, 2);
        x.addConstructor(1, 1, 0, NO, condition);
        return x;
    }

    private static void readBeyondTheHorizonWithConditions() {
        says(13, "Throws IllegalStateException if it is the code of such a value, whose size is greater than the horizon");
        due("a heap", NO_STATE, () -> readAll(unknownHeaps(4), 1, 102, 100, 1, 2, 1, 1));
        due("a balanced heap and triple", NO_STATE,
                () -> readAll(unknownHeaps(4), 1, 103, 102, 100, 1, 2, 1, 1, 101, 0, 0, 0));
        says(13, "-1 if it is not the code of such a value");
        due("no heap", -1, () -> readAll(unknownHeaps(4), 1, 102, 100, 1, 2, 1, 2));
        due("no heap within", -1, () -> readAll(unknownHeaps(4), 1, 103, 102, 100, 1, 2, 1, 2, 101, 0, 0, 0));
        due("not level", -1, () -> readAll(unknownHeaps(3), 1, 103, 102, 100, 1, 2, 1, 1, 101, 0, 0, 0));
        due("not even", -1, () -> readAll(unknownHeaps(5), 1, 103, 102, 100, 1, 2, 1, 1, 101, 0, 0, 0));
        due("not in order", -1, () -> readAll(unknownHeaps(1), 1, 103, 102, 100, 1, 2, 1, 1, 101, 0, 0, 0));
        due("a heap, read as a triple", -1, () -> readAll(unknownHeaps(4), 0, 102, 100, 1, 2, 1, 1));
        due("a triple, read as a heap", -1, () -> readAll(unknownHeaps(4), 1, 100, 1, 2, 1));
        due("a triple where a heap is due", -1,
                () -> readAll(unknownHeaps(4), 1, 103, 100, 1, 2, 1, 101, 0, 0, 0));
        due("heaps differ by 2 from a triple", -1, () -> readAll(unknownHeaps(4), 1,
                103, 103, 102, 100, 1, 2, 1, 1, 101, 0, 0, 0, 101, 0, 0, 0));
    }

    private static void readWithConditions() {
        says(13, "for the constructor of the value, and those of all values in it, the condition is true");
        DataMaker x = lists(1);
        due("0 1 2", 7, () -> readAll(x, 0, listCode(0, 1, 2)));
        due("0 1 1", -1, () -> readAll(x, 0, listCode(0, 1, 1)));
        due("2 0 1, not in order before its part", -1, () -> readAll(x, 0, listCode(2, 0, 1)));
        due("the selection stays", 7, x::number);
        DataMaker y = trees(3);
        due("two forks", 2, () -> readAll(y, 0, 101, 101, 100, 100, 101, 100, 100));
        due("a leaf and a fork", -1, () -> readAll(y, 0, 101, 100, 101, 100, 100));
        DataMaker z = trees(0);
        z.addType();
        z.addConstructor(1, INT, INT, NO, 5);
        z.addConstructor(1, 1, 0, INT, 0);
        due("an even pair", true, () -> readAll(z, 1, 103, 102, 1, 1, 100, 1) >= 0);
        due("an odd pair within", -1, () -> readAll(z, 1, 103, 102, 1, 0, 100, 1));
    }

    private static void readAgainAndAgain() {
        says(13, "What was told is forgotten");
        DataMaker level = trees(3);
        DataMaker balanced = trees(4);
        for (int i = 0; i < 2; i++) {
            due("a leaf", 0, () -> readAll(level, 0, 100));
            due("a fork of leaves", 1, () -> readAll(level, 0, 101, 100, 100));
            due("a fork of forks", 2, () -> readAll(level, 0, 101, 101, 100, 100, 101, 100, 100));
            due("a balanced fork of leaves", 1, () -> readAll(balanced, 0, 101, 100, 100));
            due("a balanced fork of forks", 4, () -> readAll(balanced, 0, 101, 101, 100, 100, 101, 100, 100));
        }
        int[][] triples = {{0, 1, 2}, {0, 0, 0}, {1, 2, 1}, {2, 1, 0}, {0, 2, 2}, {1, 1, 1}, {2, 2, 2}, {1, 0, 1}};
        for (int c = 1; c <= 5; c++) {
            DataMaker x = triples(c);
            DataMaker free = triples(0);
            int condition = c;
            for (int[] t : triples) {
                due("the condition " + c + " of a triple, behind others", holdsOf(free, condition, t),
                        () -> readAll(x, 0, 100, t[0], t[1], t[2]) >= 0);
            }
        }
    }

    private static boolean holdsOf(DataMaker free, int property, int[] triple) {
        free.select(0, 9 * triple[0] + 3 * triple[1] + triple[2]);
        return free.holds(property);
    }

    private static void readRefusesTypes() {
        says(13, "Throws IndexOutOfBoundsException if there is no such type (nothing is forgotten then)");
        for (int type : NO_TYPES) {
            refused("read(" + type + ")", NO_INDEX, SelectingEdgeTests::busyLists, x -> x.read(type));
            DataMaker x = busyLists();
            due("read(" + type + ")", NO_INDEX, () -> x.read(type));
            due("one more is told", 6, () -> x.tell(100));
            DataMaker y = busyLists();
            due("read(" + type + ")", NO_INDEX, () -> y.read(type));
            due("what is told is read", 6, () -> y.read(0));
        }
        says(13, "If several exceptions apply, the one that is named first is thrown.");
        DataMaker x = lists(0);
        tellAll(x, listCode(0, 0, 0, 0, 0));
        due("no type, and a list beyond the horizon", NO_INDEX, () -> x.read(1));
        due("the list beyond the horizon, still told", NO_STATE, () -> x.read(0));
        due("then it is forgotten", -1, () -> x.read(0));
    }

    private static void readForgets() {
        says(13, "and selects it. What was told is forgotten");
        DataMaker x = busyLists();
        due("what is told", 6, () -> x.read(0));
        due("its code is selected", List.of(101, 0, 101, 2, 100), () -> codeOf(x));
        due("digest()", digestOf(0, 2, 1, 2, 0, -1, -1, -1, 0, 0, 9, 0, -1, 0, 0, 101, 0, 101, 2, 100), x::digest);
        due("it is forgotten", -1, () -> x.read(0));
        due("the selection stays", 6, x::number);
        tellAll(x, 100, 100);
        due("no code", -1, () -> x.read(0));
        due("digest()", digestOf(0, 2, 1, 2, 0, -1, -1, -1, 0, 0, 9, 0, -1, 0, 0, 101, 0, 101, 2, 100), x::digest);
        tellAll(x, listCode(0, 0, 0, 0, 0));
        due("beyond the horizon", NO_STATE, () -> x.read(0));
        due("digest()", digestOf(0, 2, 1, 2, 0, -1, -1, -1, 0, 0, 9, 0, -1, 0, 0, 101, 0, 101, 2, 100), x::digest);
        due("no selection behind what is no code", NO_STATE, () -> {
            DataMaker y = lists(0);
            readAll(y, 0, 100, 100);
            return y.number();
        });
    }
}
