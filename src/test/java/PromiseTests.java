import java.util.ArrayList;
import java.util.Arrays;
import java.util.List;

/** For each promise of the document: ordinary inputs, the edges that it names, and wrong inputs. */
public final class PromiseTests extends Checks {
    public static void main(String[] args) {
        promise1NewObject();
        promise2SetRange();
        promise3AddType();
        promise4AddConstructor();
        promise5TypeCount();
        promise6Horizon();
        promise7Count();
        promise8Total();
        promise9FirstAgainst();
        promise10Select();
        promise11Draw();
        promise12Tell();
        promise13Read();
        promise14Length();
        promise15Code();
        promise16Number();
        promise17Height();
        promise18Mean();
        promise19Holds();
        promise20ReductionCount();
        promise21Reduction();
        promise22Reduce();
        promise23Digest();
        order();
        conditionsWithin();
        selectionEnds();
        finish("the promises");
    }

    // ---- the promises

    private static void promise1NewObject() {
        about(1, "a new object");
        DataMaker x = new DataMaker();
        due("typeCount of a new object", 0, x::typeCount);
        due("horizon of a new object", 8, x::horizon);
        due("digest of a new object", digestOf(0, 2, 0, 0, 0), x::digest);
        due("number of a new object", NO_STATE, x::number);
        due("setRange(0, 2) of a new object", false, () -> x.setRange(0, 2));
        DataMaker y = new DataMaker();
        y.addType();
        due("typeCount of an object beside another", 0, x::typeCount);
    }

    private static void promise2SetRange() {
        about(2, "setRange");
        DataMaker x = lists(0);
        due("setRange(0, 5)", true, () -> x.setRange(0, 5));
        due("setRange(0, 5) again", false, () -> x.setRange(0, 5));
        due("setRange(1, 5)", true, () -> x.setRange(1, 5));
        due("setRange(1, 4)", true, () -> x.setRange(1, 4));
        due("setRange(5, 5)", true, () -> x.setRange(5, 5));
        due("count with one number", 1, () -> x.count(0, 2));
        due("setRange(0, 0)", true, () -> x.setRange(0, 0));
        x.setRange(1, 3);
        due("setRange(-1, 2)", NO_ARGUMENT, () -> x.setRange(-1, 2));
        due("setRange(0, 6)", NO_ARGUMENT, () -> x.setRange(0, 6));
        due("setRange(3, 2)", NO_ARGUMENT, () -> x.setRange(3, 2));
        due("setRange(least, greatest)", NO_ARGUMENT, () -> x.setRange(LEAST, GREATEST));
        due("the range behind wrong ones", false, () -> x.setRange(1, 3));
        due("the first number of the range", List.of(101, 1, 100), () -> codeAt(x, 0, 1));
        due("the last number of the range", List.of(101, 3, 100), () -> codeAt(x, 0, 3));
    }

    private static void promise3AddType() {
        about(3, "addType");
        DataMaker x = new DataMaker();
        for (int type = 0; type < 4; type++) {
            due("addType", type, x::addType);
        }
        due("addType behind 4", NO_STATE, x::addType);
        due("typeCount behind it", 4, x::typeCount);
        due("a type without constructors", 0, () -> x.total(3, 8));
    }

    private static void promise4AddConstructor() {
        about(4, "addConstructor");
        DataMaker x = new DataMaker();
        due("addConstructor without a type", NO_INDEX, () -> x.addConstructor(0, NO, NO, NO, 0));
        x.addType();
        x.addType();
        due("type 2 of 2", NO_INDEX, () -> x.addConstructor(2, NO, NO, NO, 0));
        due("type -1", NO_INDEX, () -> x.addConstructor(-1, NO, NO, NO, 0));
        due("type 9, wrong parameters too", NO_INDEX, () -> x.addConstructor(9, 7, 7, 7, 7));
        due("first parameter 2 of 2", NO_ARGUMENT, () -> x.addConstructor(0, 2, NO, NO, 0));
        due("second parameter 8", NO_ARGUMENT, () -> x.addConstructor(0, INT, 8, NO, 0));
        due("third parameter 10", NO_ARGUMENT, () -> x.addConstructor(0, INT, 0, 10, 0));
        due("parameter -2", NO_ARGUMENT, () -> x.addConstructor(0, -2, NO, NO, 0));
        due("a number behind none", NO_ARGUMENT, () -> x.addConstructor(0, NO, INT, NO, 0));
        due("a type behind none", NO_ARGUMENT, () -> x.addConstructor(0, INT, NO, 0, 0));
        due("third behind none", NO_ARGUMENT, () -> x.addConstructor(0, NO, NO, INT, 0));
        due("three types", NO_ARGUMENT, () -> x.addConstructor(0, 0, 1, 0, 0));
        due("condition -1", NO_ARGUMENT, () -> x.addConstructor(0, NO, NO, NO, -1));
        due("condition 6", NO_ARGUMENT, () -> x.addConstructor(0, NO, NO, NO, 6));
        due("digest behind wrong ones", digestOf(0, 2, 2, 0, 0), x::digest);
        due("two types and INT", 0, () -> x.addConstructor(1, 0, INT, 1, 5));
        due("three numbers", 1, () -> x.addConstructor(0, INT, INT, INT, 4));
        for (int number = 2; number < 6; number++) {
            due("constructor", number, () -> x.addConstructor(0, NO, NO, NO, 3));
        }
        long before = x.digest();
        due("a seventh", NO_STATE, () -> x.addConstructor(0, NO, NO, NO, 0));
        due("a seventh that is wrong", NO_ARGUMENT, () -> x.addConstructor(0, NO, NO, NO, 6));
        due("a seventh of no type", NO_INDEX, () -> x.addConstructor(2, NO, NO, NO, 6));
        due("digest behind them", before, x::digest);
    }

    private static void promise5TypeCount() {
        about(5, "typeCount");
        DataMaker x = new DataMaker();
        x.addType();
        due("typeCount", 1, x::typeCount);
        x.addType();
        due("typeCount", 2, x::typeCount);
    }

    private static void promise6Horizon() {
        about(6, "horizon");
        due("lists of 0 to 2: 1 + 3 + 9 + 27 + 81 = 121, then 364", 5, () -> lists(0).horizon());
        due("ascending lists", 8, () -> lists(1).horizon());
        due("432 values of size 1", 0, () -> tooMany().horizon());
        DataMaker x = triples(0);
        x.setRange(0, 5);
        due("216 values of size 1", 8, x::horizon);
        x.addType();
        x.addConstructor(1, INT, INT, NO, 0);
        due("216 and 36", 8, x::horizon);
        x.addConstructor(1, INT, INT, NO, 0);
        due("216 and 72", 8, x::horizon);
        x.addConstructor(1, INT, NO, NO, 0);
        x.addConstructor(1, INT, NO, NO, 0);
        due("216, 72 and 12: 300 in all types", 8, x::horizon);
        x.addConstructor(1, NO, NO, NO, 0);
        due("301 in all types", 0, x::horizon);
        DataMaker y = trees(0);
        due("trees: 1 + 1 + 2 + 5", 8, y::horizon);
        y.addConstructor(0, INT, 0, 0, 0);
        y.addConstructor(0, 0, INT, 0, 0);
        due("trees with 7 forks: 1 + 7 + 98 and then 1715", 6, y::horizon);
    }

    private static void promise7Count() {
        about(7, "count");
        DataMaker x = lists(0);
        due("count(0, 1)", 1, () -> x.count(0, 1));
        due("count(0, 4)", 27, () -> x.count(0, 4));
        due("count(0, 5)", 81, () -> x.count(0, 5));
        due("count beyond the horizon", NO_STATE, () -> x.count(0, 6));
        due("count(0, 8)", NO_STATE, () -> x.count(0, 8));
        due("count(0, 9)", NO_ARGUMENT, () -> x.count(0, 9));
        due("count(0, 0)", NO_ARGUMENT, () -> x.count(0, 0));
        due("count(1, 0)", NO_INDEX, () -> x.count(1, 0));
        due("count(-1, 1)", NO_INDEX, () -> x.count(-1, 1));
        due("count of the greatest", NO_ARGUMENT, () -> x.count(0, GREATEST));
        due("count with horizon 0", NO_STATE, () -> tooMany().count(0, 1));
        due("count of another type with horizon 0", NO_STATE, () -> {
            DataMaker y = tooMany();
            y.addType();
            return y.count(1, 1);
        });
        DataMaker t = trees(0);
        due("trees have odd sizes", 0, () -> t.count(0, 4));
        due("trees of size 7", 5, () -> t.count(0, 7));
    }

    private static void promise8Total() {
        about(8, "total");
        DataMaker x = lists(0);
        due("total(0, 1)", 1, () -> x.total(0, 1));
        due("total(0, 5)", 121, () -> x.total(0, 5));
        due("total beyond the horizon", NO_STATE, () -> x.total(0, 6));
        due("total(0, 9)", NO_ARGUMENT, () -> x.total(0, 9));
        due("total(0, -1)", NO_ARGUMENT, () -> x.total(0, -1));
        due("total(1, 9)", NO_INDEX, () -> x.total(1, 9));
        due("trees up to 8", 9, () -> trees(0).total(0, 8));
    }

    private static void promise9FirstAgainst() {
        about(9, "firstAgainst");
        DataMaker x = lists(0);
        due("not ascending: 0 0", 4, () -> x.firstAgainst(0, 1, 5));
        due("no such of size 2", -1, () -> x.firstAgainst(0, 1, 2));
        due("not heaped: 1 0", 7, () -> x.firstAgainst(0, 2, 5));
        due("lists are level", -1, () -> x.firstAgainst(0, 3, 5));
        due("not even: 1", 2, () -> x.firstAgainst(0, 5, 5));
        due("property 0", NO_ARGUMENT, () -> x.firstAgainst(0, 0, 1));
        due("property 6", NO_ARGUMENT, () -> x.firstAgainst(0, 6, 1));
        due("size 0", NO_ARGUMENT, () -> x.firstAgainst(0, 1, 0));
        due("size 9", NO_ARGUMENT, () -> x.firstAgainst(0, 1, 9));
        due("size 6", NO_STATE, () -> x.firstAgainst(0, 1, 6));
        due("size 6, property 6", NO_ARGUMENT, () -> x.firstAgainst(0, 6, 6));
        due("type 1", NO_INDEX, () -> x.firstAgainst(1, 6, 6));
        DataMaker t = trees(0);
        due("not level: leaf, fork", 2, () -> t.firstAgainst(0, 3, 8));
        due("not balanced: leaf, fork of leaf, fork", 4, () -> t.firstAgainst(0, 4, 8));
        due("nothing is selected by it", NO_STATE, t::number);
        due("it is asked of the value, not of those in it", -1, () -> {
            DataMaker y = new DataMaker();
            y.addType();
            y.addConstructor(0, INT, INT, NO, 0);
            y.addType();
            y.addConstructor(1, 0, 0, NO, 2);
            return y.firstAgainst(1, 2, 3);
        });
    }

    private static void promise10Select() {
        about(10, "select");
        DataMaker x = lists(0);
        due("select(0, 0)", 1, () -> x.select(0, 0));
        due("select(0, 3)", 2, () -> x.select(0, 3));
        due("select(0, 120)", 5, () -> x.select(0, 120));
        due("its code", List.of(101, 2, 101, 2, 101, 2, 101, 2, 100), () -> codeOf(x));
        due("beyond the horizon", NO_STATE, () -> x.select(0, 121));
        due("negative", NO_INDEX, () -> x.select(0, -1));
        due("least", NO_INDEX, () -> x.select(0, LEAST));
        due("greatest", NO_STATE, () -> x.select(0, GREATEST));
        due("no such type", NO_INDEX, () -> x.select(1, 0));
        due("the selection stays", 120, x::number);
        DataMaker y = lists(1);
        due("the last ascending list", 4, () -> y.select(0, 7));
        due("none behind it", NO_INDEX, () -> y.select(0, 8));
        due("horizon 0", NO_STATE, () -> tooMany().select(0, 0));
        due("horizon 0, negative", NO_INDEX, () -> tooMany().select(0, -1));
    }

    private static void promise11Draw() {
        about(11, "draw");
        DataMaker x = lists(0);
        long[] seeds = {0, 1, -1, 7, 12345, Long.MIN_VALUE, Long.MAX_VALUE, 6364136223846793005L};
        java.math.BigInteger wrap = java.math.BigInteger.ONE.shiftLeft(64);
        for (long seed : seeds) {
            java.math.BigInteger y = java.math.BigInteger.valueOf(seed)
                    .multiply(java.math.BigInteger.valueOf(6364136223846793005L))
                    .add(java.math.BigInteger.valueOf(1442695040888963407L))
                    .mod(wrap).shiftRight(33);
            due("draw(0, 5, " + seed + ")", 40 + y.intValue() % 81, () -> x.draw(0, 5, seed));
            due("its number", 40 + y.intValue() % 81, x::number);
            due("draw(0, 1, seed)", 0, () -> x.draw(0, 1, seed));
        }
        x.select(0, 5);
        due("size 6", NO_STATE, () -> x.draw(0, 6, 1));
        due("size 0", NO_ARGUMENT, () -> x.draw(0, 0, 1));
        due("size 9", NO_ARGUMENT, () -> x.draw(0, 9, 1));
        due("type 1", NO_INDEX, () -> x.draw(1, 9, 1));
        due("the selection stays", 5, x::number);
        due("no trees of size 2", NO_ELEMENT, () -> trees(0).draw(0, 2, 1));
    }

    private static void promise12Tell() {
        about(12, "tell");
        DataMaker x = lists(0);
        int[] bad = {-1, 6, 99, 106, 9, LEAST, GREATEST};
        for (int code : bad) {
            due("tell(" + code + ")", NO_ARGUMENT, () -> x.tell(code));
        }
        int[] good = {0, 5, 100, 105};
        for (int i = 0; i < 40; i++) {
            int code = good[i % 4];
            due("tell(" + code + ")", i + 1, () -> x.tell(code));
        }
        due("a 41st", NO_STATE, () -> x.tell(0));
        due("a 41st that is wrong", NO_ARGUMENT, () -> x.tell(6));
        due("digest with 40", digestOf(0, 2, 1, 2, 0, -1, -1, -1, 0, 0, 9, 0, -1, 0, 40), x::digest);
        due("read of 40", -1, () -> x.read(0));
        due("tell behind it", 1, () -> x.tell(1));
        x.setRange(0, 1);
        x.addType();
        due("what is told stays", 2, () -> x.tell(1));
    }

    private static void promise13Read() {
        about(13, "read");
        DataMaker x = lists(0);
        due("nothing told", -1, () -> x.read(0));
        tellAll(x, 101, 1, 101, 2, 100);
        due("no such type", NO_INDEX, () -> x.read(1));
        due("a list, not forgotten", 4 + 3 + 2, () -> x.read(0));
        due("it is selected", 9, x::number);
        due("it is forgotten", 1, () -> x.tell(100));
        tellAll(x, 100);
        due("two values", -1, () -> x.read(0));
        due("the selection stays", 9, x::number);
        due("forgotten too", 1, () -> x.tell(101));
        tellAll(x, 1);
        due("too short", -1, () -> x.read(0));
        tellAll(x, 101, 3, 100);
        due("a number out of the range", -1, () -> x.read(0));
        tellAll(x, 101, 100, 100);
        due("a value for a number", -1, () -> x.read(0));
        tellAll(x, 101, 1, 1);
        due("a number for a value", -1, () -> x.read(0));
        tellAll(x, 102);
        due("no such constructor", -1, () -> x.read(0));
        tellAll(x, 101, 0, 101, 0, 101, 0, 101, 0, 101, 0, 100);
        due("size 6 beyond horizon 5", NO_STATE, () -> x.read(0));
        due("forgotten then", 1, () -> x.tell(100));
        due("the selection stays then", 9, x::number);
        due("nil", 0, () -> x.read(0));
        tellAll(x, 101, 0, 101, 0, 101, 0, 101, 0, 101, 0, 101, 0, 101, 0, 100);
        due("size 8 beyond horizon 5", NO_STATE, () -> x.read(0));
        tellAll(x, 101, 0, 101, 0, 101, 0, 101, 0, 101, 0, 101, 0, 101, 0, 101, 0, 100);
        due("size 9", -1, () -> x.read(0));
        tellAll(x, 101, 0, 101, 0, 101, 3, 101, 0, 101, 0, 100);
        due("a number out of the range beyond the horizon", -1, () -> x.read(0));
        tellAll(x, 101, 0, 101, 0, 101, 0, 101, 0, 101, 0);
        due("too short beyond the horizon", -1, () -> x.read(0));
        tellAll(x, 102, 101, 0, 100, 101, 0, 100, 101, 0, 100);
        due("no such constructor beyond the horizon", -1, () -> x.read(0));
        readConditions();
    }

    private static void readConditions() {
        DataMaker x = lists(1);
        x.setRange(0, 5);
        tellAll(x, 101, 0, 101, 3, 101, 5, 100);
        due("ascending", true, () -> x.read(0) > 0);
        due("its code", List.of(101, 0, 101, 3, 101, 5, 100), () -> codeOf(x));
        tellAll(x, 101, 0, 101, 3, 101, 3, 100);
        due("not ascending", -1, () -> x.read(0));
        tellAll(x, 101, 5, 101, 0, 101, 3, 100);
        due("ascending but for the first", -1, () -> x.read(0));
        DataMaker y = tooMany();
        y.addType();
        y.addConstructor(1, 0, NO, NO, 5);
        tellAll(y, 102, 100, 0, 0, 0);
        due("beyond horizon 0", NO_STATE, () -> y.read(1));
        tellAll(y, 102, 100, 0, 0, 1);
        due("against its condition beyond the horizon", -1, () -> y.read(1));
        tellAll(y, 102, 100, 0, 0, 0);
        due("another type", -1, () -> y.read(0));
    }

    private static void promise14Length() {
        about(14, "length");
        DataMaker x = lists(0);
        due("length of none", NO_STATE, x::length);
        x.select(0, 0);
        due("length of nil", 1, x::length);
        x.select(0, 9);
        due("length of a list", 5, x::length);
        due("longest: 8 constructors and 17 numbers", 25, () -> {
            DataMaker y = new DataMaker();
            y.addType();
            y.setRange(2, 2);
            y.addConstructor(0, INT, INT, INT, 0);
            y.addConstructor(0, INT, INT, 0, 0);
            y.select(0, 7);
            return y.length();
        });
    }

    private static void promise15Code() {
        about(15, "code");
        DataMaker x = lists(0);
        due("code of none", NO_STATE, () -> x.code(-1));
        x.select(0, 9);
        due("code", List.of(101, 1, 101, 2, 100), () -> codeOf(x));
        due("code(5)", NO_INDEX, () -> x.code(5));
        due("code(-1)", NO_INDEX, () -> x.code(-1));
        due("code(greatest)", NO_INDEX, () -> x.code(GREATEST));
        due("code(least)", NO_INDEX, () -> x.code(LEAST));
        x.select(0, 0);
        due("code(1) behind a longer one", NO_INDEX, () -> x.code(1));
    }

    private static void promise16Number() {
        about(16, "number");
        DataMaker x = lists(0);
        due("number of none", NO_STATE, x::number);
        x.addType();
        x.addConstructor(1, 0, NO, NO, 0);
        x.select(1, 2);
        due("number in its type", 2, x::number);
        due("draw tells it", true, () -> x.draw(0, 3, 5) == x.number());
    }

    private static void promise17Height() {
        about(17, "height");
        DataMaker x = trees(0);
        due("height of none", NO_STATE, x::height);
        x.select(0, 0);
        due("height of a leaf", 1, x::height);
        x.select(0, 4);
        due("height of leaf, (leaf, (leaf, leaf))", 4, x::height);
        x.select(0, 6);
        due("height of two forks", List.of(101, 101, 100, 100, 101, 100, 100), () -> codeOf(x));
        due("height of two forks", 3, x::height);
    }

    private static void promise18Mean() {
        about(18, "mean");
        DataMaker x = triples(0);
        due("mean of none", NO_STATE, x::mean);
        x.select(0, 5);
        due("mean of 0 1 2", 1.0, x::mean);
        x.select(0, 1);
        due("mean of 0 0 1", 1.0 / 3.0, x::mean);
        x.select(0, 0);
        due("mean of 0 0 0", 0.0, x::mean);
        DataMaker y = trees(0);
        y.select(0, 3);
        due("mean without numbers", 0.0, y::mean);
        DataMaker z = lists(0);
        z.select(0, 9);
        due("mean of 1 2, one of them within", 1.5, z::mean);
    }

    private static void promise19Holds() {
        about(19, "holds");
        DataMaker x = triples(0);
        due("holds of none", NO_STATE, () -> x.holds(0));
        x.select(0, 5);
        due("0 1 2 is ascending", true, () -> x.holds(1));
        due("0 1 2 is heaped", true, () -> x.holds(2));
        due("0 1 2 is level", true, () -> x.holds(3));
        due("0 1 2 is balanced", true, () -> x.holds(4));
        due("0 1 2 is not even", false, () -> x.holds(5));
        x.select(0, 4);
        due("0 1 1 is not ascending", false, () -> x.holds(1));
        due("0 1 1 is even", true, () -> x.holds(5));
        x.select(0, 15);
        due("1 2 0 is not heaped", false, () -> x.holds(2));
        due("holds(0)", NO_ARGUMENT, () -> x.holds(0));
        due("holds(6)", NO_ARGUMENT, () -> x.holds(6));
        DataMaker t = trees(0);
        t.select(0, 2);
        due("leaf, fork is not level", false, () -> t.holds(3));
        due("leaf, fork is balanced", true, () -> t.holds(4));
        t.select(0, 4);
        due("leaf, (leaf, fork) is not balanced", false, () -> t.holds(4));
        due("trees without numbers are even", true, () -> t.holds(5));
        heapLooksAtTheFirstNumber();
    }

    private static void heapLooksAtTheFirstNumber() {
        DataMaker x = lists(0);
        x.addType();
        x.addConstructor(1, 0, INT, INT, 0);
        tellAll(x, 102, 101, 1, 100, 1, 2);
        x.read(1);
        due("(1) 1 2: 1 is the first argument that is a number", true, () -> x.holds(2));
        tellAll(x, 102, 101, 0, 100, 1, 2);
        x.read(1);
        due("(0) 1 2: 0 is an int before it", false, () -> x.holds(2));
        due("(0) 1 2 is ascending", true, () -> x.holds(1));
        tellAll(x, 102, 101, 2, 100, 2, 1);
        x.read(1);
        due("(2) 2 1: 1 is less", false, () -> x.holds(2));
    }

    private static void promise20ReductionCount() {
        about(20, "reductionCount");
        DataMaker x = lists(0);
        due("reductionCount of none", NO_STATE, x::reductionCount);
        x.select(0, 0);
        due("nil has none", 0, x::reductionCount);
        x.select(0, 12);
        due("2 2: 2, nil, and each 2 as 0 and as 1", 6, x::reductionCount);
        DataMaker t = trees(0);
        t.select(0, 6);
        due("equal parts count once", 2, t::reductionCount);
        DataMaker y = triples(0);
        y.setRange(3, 5);
        y.select(0, 26);
        due("only numbers of the range", 6, y::reductionCount);
    }

    private static void promise21Reduction() {
        about(21, "reduction");
        DataMaker x = lists(0);
        due("reduction of none", NO_STATE, () -> x.reduction(-1));
        x.select(0, 12);
        due("2 2", List.of(3, 0, 6, 9, 10, 11), () -> reductionsOf(x));
        due("reduction(6)", NO_INDEX, () -> x.reduction(6));
        due("reduction(-1)", NO_INDEX, () -> x.reduction(-1));
        due("reduction(greatest)", NO_INDEX, () -> x.reduction(GREATEST));
        due("reduction(least)", NO_INDEX, () -> x.reduction(LEAST));
        due("the selection stays", 12, x::number);
        DataMaker y = lists(1);
        y.setRange(0, 5);
        tellAll(y, 101, 2, 101, 4, 100);
        y.read(0);
        List<Integer> codes = new ArrayList<>();
        for (int number : reductionsOf(y)) {
            codes.addAll(codeAt(y, 0, number));
        }
        due("2 4 ascending: 4, nil, 0 4, 1 4, 2 3", Arrays.asList(101, 4, 100, 100, 101, 0, 101, 4, 100,
                101, 1, 101, 4, 100, 101, 2, 101, 3, 100), () -> codes);
        reductionsThroughAnotherType();
    }

    private static void reductionsThroughAnotherType() {
        DataMaker x = new DataMaker();
        x.addType();
        x.addType();
        x.addConstructor(0, NO, NO, NO, 0);
        x.addConstructor(0, 1, INT, NO, 0);
        x.addConstructor(1, 0, 0, NO, 0);
        x.setRange(0, 1);
        tellAll(x, 101, 102, 101, 102, 100, 100, 1, 100, 0);
        x.read(0);
        int inner = x.reduction(0);
        due("three: the inner one, the leaf, and 0 for its 1", 3, x::reductionCount);
        due("the leaf", 0, () -> x.reduction(1));
        due("the inner one", List.of(101, 102, 100, 100, 1), () -> codeAt(x, 0, inner));
    }

    private static void promise22Reduce() {
        about(22, "reduce");
        DataMaker x = lists(0);
        due("reduce of none", NO_STATE, () -> x.reduce(0));
        x.select(0, 12);
        due("reduce(0)", NO_ARGUMENT, () -> x.reduce(0));
        due("reduce(6)", NO_ARGUMENT, () -> x.reduce(6));
        due("2 2 is even", 0, () -> x.reduce(5));
        due("2 2 stays", 12, x::number);
        due("2 2 is not ascending: 2 0, then 0 0", 2, () -> x.reduce(1));
        due("0 0", List.of(101, 0, 101, 0, 100), () -> codeOf(x));
        due("nothing smaller", 0, () -> x.reduce(1));
        DataMaker y = lists(0);
        tellAll(y, 101, 2, 101, 1, 101, 0, 101, 2, 100);
        y.read(0);
        due("2 1 0 2 is not heaped: 1 0 2, then 1 0 0, as 0 0 2 is heaped", 2, () -> y.reduce(2));
        due("it is still not heaped", false, () -> y.holds(2));
        due("no reduction is not heaped", true, () -> {
            int own = y.number();
            List<Integer> all = reductionsOf(y);
            boolean none = true;
            for (int number : all) {
                y.select(0, number);
                none = none && y.holds(2);
            }
            y.select(0, own);
            return none;
        });
        due("1 0 0", List.of(101, 1, 101, 0, 101, 0, 100), () -> codeOf(y));
    }

    private static void promise23Digest() {
        about(23, "digest");
        DataMaker x = new DataMaker();
        x.setRange(1, 4);
        x.addType();
        x.addType();
        x.addConstructor(1, INT, NO, NO, 3);
        x.addConstructor(0, 0, 1, INT, 2);
        due("digest", digestOf(1, 4, 2, 2, 1, 9, -1, -1, 3, 0, 0, 1, 9, 2, 0), x::digest);
        x.tell(100);
        x.tell(5);
        due("digest with two told", digestOf(1, 4, 2, 2, 1, 9, -1, -1, 3, 0, 0, 1, 9, 2, 2), x::digest);
        x.select(1, 2);
        due("digest with a value", digestOf(1, 4, 2, 2, 1, 9, -1, -1, 3, 0, 0, 1, 9, 2, 2, 100, 3), x::digest);
        due("it changes nothing", digestOf(1, 4, 2, 2, 1, 9, -1, -1, 3, 0, 0, 1, 9, 2, 2, 100, 3), x::digest);
    }

    // ---- what the description says of all of them

    private static void order() {
        about(10, "the order of the values");
        DataMaker x = new DataMaker();
        x.addType();
        x.addType();
        x.setRange(0, 1);
        x.addConstructor(1, 0, INT, 0, 0);
        x.addConstructor(0, INT, NO, NO, 0);
        x.addConstructor(0, 0, NO, NO, 0);
        x.addConstructor(1, NO, NO, NO, 0);
        due("the smaller size first", List.of(103), () -> codeAt(x, 1, 0));
        due("the first value of the first constructor", List.of(100, 101, 0, 0, 101, 0), () -> codeAt(x, 1, 1));
        due("the last argument", List.of(100, 101, 0, 0, 101, 1), () -> codeAt(x, 1, 2));
        due("the number in the middle", List.of(100, 101, 0, 1, 101, 0), () -> codeAt(x, 1, 3));
        due("the last of size 3", List.of(100, 101, 1, 1, 101, 1), () -> codeAt(x, 1, 8));
        due("of size 4, a small first argument first", List.of(100, 101, 0, 0, 102, 101, 0), () -> codeAt(x, 1, 9));
        due("of size 4, a great first argument behind", List.of(100, 102, 101, 0, 0, 101, 0), () -> codeAt(x, 1, 17));
    }

    private static void conditionsWithin() {
        about(7, "conditions of values in values");
        DataMaker x = new DataMaker();
        x.addType();
        x.addConstructor(0, INT, INT, NO, 1);
        x.addType();
        x.addConstructor(1, 0, 0, NO, 3);
        x.addConstructor(1, 1, 0, NO, 4);
        due("pairs 01 02 12", 3, () -> x.count(0, 1));
        due("pairs of pairs, each ascending by itself", 9, () -> x.count(1, 3));
        due("height 2 and height 1 differ by 1", 27, () -> x.count(1, 5));
        due("height 3 and height 1 do not", 0, () -> x.count(1, 7));
        DataMaker y = triples(5);
        due("even triples", 14, () -> y.count(0, 1));
        DataMaker z = triples(2);
        due("heaped triples: 9 + 4 + 1", 14, () -> z.count(0, 1));
        due("level trees: one for each height", 3, () -> trees(3).total(0, 8));
        due("balanced trees: 1, 1, 2, 1", 5, () -> trees(4).total(0, 8));
    }

    private static void selectionEnds() {
        about(16, "where the selection ends");
        DataMaker x = lists(0);
        x.select(0, 2);
        due("a wrong setRange leaves the selection", NO_ARGUMENT, () -> x.setRange(0, 6));
        due("a wrong addConstructor too", NO_ARGUMENT, () -> x.addConstructor(0, 7, NO, NO, 0));
        due("the selection", 2, x::number);
        x.setRange(0, 2);
        due("setRange ends it, also with the same range", NO_STATE, x::number);
        x.select(0, 2);
        x.addType();
        due("addType ends it", NO_STATE, x::number);
        x.select(0, 2);
        x.addConstructor(1, NO, NO, NO, 0);
        due("addConstructor ends it", NO_STATE, x::number);
        x.addType();
        x.addType();
        x.select(0, 2);
        due("a fifth type", NO_STATE, x::addType);
        due("leaves it", 2, x::number);
    }
}
