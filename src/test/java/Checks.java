import java.math.BigInteger;
import java.util.ArrayList;
import java.util.List;
import java.util.concurrent.Callable;
import java.util.function.Supplier;

/** What the tests are made of: checks that name their promise, and objects to start from. */
abstract class Checks {
    static final int INT = 9;
    static final int NO = -1;
    static final int LEAST = Integer.MIN_VALUE;
    static final int GREATEST = Integer.MAX_VALUE;

    static final Class<?> NO_INDEX = IndexOutOfBoundsException.class;
    static final Class<?> NO_ARGUMENT = IllegalArgumentException.class;
    static final Class<?> NO_STATE = IllegalStateException.class;
    static final Class<?> NO_ELEMENT = java.util.NoSuchElementException.class;

    private static String heading = "";
    private static int wrong = 0;
    private static int checks = 0;

    /** A call on an object that the check makes itself. */
    interface Call {
        Object on(DataMaker x);
    }

    // ---- checks

    /** The promise and the sentence of the document that the checks behind it are about. */
    static void says(int promise, String sentence) {
        heading = "promise " + promise + ", \"" + sentence + "\": ";
    }

    /** The promise that the checks behind it are about, and what of it. */
    static void about(int promise, String what) {
        heading = "promise " + promise + ", " + what + ": ";
    }

    static void due(String what, Object want, Callable<?> call) {
        checks++;
        Object got = answerOf(call);
        if (!want.equals(got)) {
            wrong++;
            System.out.println(heading + what + " answered " + got + ", due is " + want);
        }
    }

    /** That a call throws, and that the object is then like its twin that never heard the call. */
    static void refused(String what, Class<?> want, Supplier<DataMaker> recipe, Call call) {
        DataMaker asked = recipe.get();
        due(what, want, () -> call.on(asked));
        due(what + ", refused, and all that follows", traceOf(recipe.get()), () -> traceOf(asked));
    }

    static void finish(String name) {
        System.out.println(name + ": " + checks + " checks, " + wrong + " answers are not as due");
        if (wrong != 0) {
            System.exit(1);
        }
    }

    private static Object answerOf(Callable<?> call) {
        try {
            return call.call();
        } catch (Exception e) {
            return e.getClass();
        }
    }

    /**
     * The answers to some 120 calls that show the whole state: first those that change nothing,
     * then the reading of what is told, the values of each type, and what can still be added.
     */
    static List<Object> traceOf(DataMaker x) {
        List<Object> trace = new ArrayList<>();
        trace.add(answerOf(x::digest));
        trace.add(answerOf(x::typeCount));
        trace.add(answerOf(x::horizon));
        trace.add(answerOf(x::length));
        trace.add(answerOf(x::number));
        trace.add(answerOf(x::height));
        trace.add(answerOf(x::mean));
        trace.add(answerOf(x::reductionCount));
        for (int i = 0; i < 6; i++) {
            int index = i;
            trace.add(answerOf(() -> x.code(index)));
            trace.add(answerOf(() -> x.reduction(index)));
            trace.add(answerOf(() -> x.holds(index)));
        }
        for (int i = 0; i < 32; i++) {
            int index = i;
            trace.add(answerOf(() -> x.total(index / 8, 1 + index % 8)));
        }
        trace.add(answerOf(() -> x.read(0)));
        trace.add(answerOf(x::digest));
        for (int i = 0; i < 20; i++) {
            int index = i;
            trace.add(answerOf(() -> x.select(index / 5, index % 5)));
            trace.add(answerOf(x::digest));
        }
        trace.add(answerOf(() -> x.addConstructor(0, NO, NO, NO, 0)));
        trace.add(answerOf(x::addType));
        trace.add(answerOf(x::digest));
        return trace;
    }

    // ---- what is asked of an object

    static List<Integer> codeOf(DataMaker x) {
        List<Integer> code = new ArrayList<>();
        int length = x.length();
        for (int i = 0; i < length; i++) {
            code.add(x.code(i));
        }
        return code;
    }

    static List<Integer> codeAt(DataMaker x, int type, int number) {
        x.select(type, number);
        return codeOf(x);
    }

    static List<Integer> reductionsOf(DataMaker x) {
        List<Integer> all = new ArrayList<>();
        int count = x.reductionCount();
        for (int i = 0; i < count; i++) {
            all.add(x.reduction(i));
        }
        return all;
    }

    static void tellAll(DataMaker x, int... codes) {
        for (int code : codes) {
            x.tell(code);
        }
    }

    static int readAll(DataMaker x, int type, int... codes) {
        tellAll(x, codes);
        return x.read(type);
    }

    /** The code of a list: 101 before each number, and 100 behind the last one. */
    static int[] listCode(int... numbers) {
        int[] code = new int[2 * numbers.length + 1];
        for (int i = 0; i < numbers.length; i++) {
            code[2 * i] = 101;
            code[2 * i + 1] = numbers[i];
        }
        code[2 * numbers.length] = 100;
        return code;
    }

    /** The checksum of promise 23, with numbers that never wrap around but at the end. */
    static long digestOf(long... numbers) {
        BigInteger d = BigInteger.valueOf(137);
        for (long x : numbers) {
            d = d.multiply(BigInteger.valueOf(31)).add(BigInteger.valueOf(x));
        }
        return d.longValue();
    }

    // ---- objects to start from

    /** Lists of numbers: 0 nil, 1 cons(INT, list) with a condition. Without one the horizon is 5. */
    static DataMaker lists(int condition) {
        DataMaker x = new DataMaker();
        x.addType();
        x.addConstructor(0, NO, NO, NO, 0);
        x.addConstructor(0, INT, 0, NO, condition);
        return x;
    }

    /** Trees without numbers: 0 leaf, 1 fork(tree, tree) with a condition. The horizon is 8. */
    static DataMaker trees(int condition) {
        DataMaker x = new DataMaker();
        x.addType();
        x.addConstructor(0, NO, NO, NO, 0);
        x.addConstructor(0, 0, 0, NO, condition);
        return x;
    }

    /** One constructor with three numbers and a condition. */
    static DataMaker triples(int condition) {
        DataMaker x = new DataMaker();
        x.addType();
        x.addConstructor(0, INT, INT, INT, condition);
        return x;
    }

    /** 432 values of size 1: the horizon is 0. */
    static DataMaker tooMany() {
        DataMaker x = triples(0);
        x.addConstructor(0, INT, INT, INT, 0);
        x.setRange(0, 5);
        return x;
    }

    /** 216 + 36 + 36 + 6 + 6 = 300 values of size 1 in one type: the horizon is still 8. */
    static DataMaker threeHundred() {
        DataMaker x = triples(0);
        x.addConstructor(0, INT, INT, NO, 0);
        x.addConstructor(0, INT, INT, NO, 0);
        x.addConstructor(0, INT, NO, NO, 0);
        x.addConstructor(0, INT, NO, NO, 0);
        x.setRange(0, 5);
        return x;
    }

    /** Lists of 0 to 2 with the list 1 2 selected (number 9), and the list 0 2 (number 6) told. */
    static DataMaker busyLists() {
        DataMaker x = lists(0);
        x.select(0, 9);
        tellAll(x, listCode(0, 2));
        return x;
    }

    /** Trees with (leaf, fork) selected (number 2), and (fork, leaf) (number 3) told. */
    static DataMaker busyTrees() {
        DataMaker x = trees(0);
        x.select(0, 2);
        tellAll(x, 101, 101, 100, 100, 100);
        return x;
    }

    /** All 4 types and all 6 constructors, with a list selected and another one told. */
    static DataMaker fullLists() {
        DataMaker x = lists(0);
        x.addType();
        x.addType();
        x.addType();
        x.addConstructor(1, 0, NO, NO, 1);
        x.addConstructor(2, 1, INT, NO, 2);
        x.addConstructor(1, INT, INT, NO, 5);
        x.addConstructor(2, 0, 0, NO, 3);
        x.select(0, 9);
        tellAll(x, listCode(0, 2));
        return x;
    }
}
