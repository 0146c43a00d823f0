import java.util.NoSuchElementException;

/**
 * A generator of test data for types that are given by constructors. The promises that the
 * comments name by number are those of the document DOC.md.
 */
public final class DataMaker {
    private static final int MOST_TYPES = 4;
    private static final int MOST_CONSTRUCTORS = 6;
    private static final int MOST_PARAMETERS = 3;
    private static final int MOST_SIZE = 8;
    private static final int MOST_VALUES = 300;
    private static final int MOST_TOLD = 40;
    private static final int GREATEST_INT = 5;

    private static final int INT = 9;
    private static final int NO_PARAMETER = -1;
    private static final int CODE_BASE = 100;

    private static final int NONE = 0;
    private static final int ORDER = 1;
    private static final int HEAP = 2;
    private static final int LEVEL = 3;
    private static final int BALANCE = 4;
    private static final int EVEN = 5;

    private static final long DRAW_FACTOR = 6364136223846793005L;
    private static final long DRAW_STEP = 1442695040888963407L;
    private static final int DRAW_SHIFT = 33;
    private static final long DIGEST_START = 137L;
    private static final long DIGEST_FACTOR = 31L;

    /** More ints than a value can have: two values that differ in more than their ints. */
    private static final int FAR_APART = 100;

    private final Grammar grammar;
    private final Stock stock;
    private final Told told;
    private final Code selectedCode;
    private final Reductions reductions;
    private Value selected;

    /** Promise 1. */
    public DataMaker() {
        grammar = new Grammar();
        stock = new Stock(grammar);
        told = new Told(grammar);
        selectedCode = new Code();
        reductions = new Reductions();
        selected = null;
    }

    /** Promise 2. */
    public boolean setRange(int low, int high) throws IllegalArgumentException {
        if (low < 0 || high > GREATEST_INT || low > high) {
            throw new IllegalArgumentException("no range within 0 to 5");
        }
        boolean other = low != grammar.low || high != grammar.high;
        grammar.low = low;
        grammar.high = high;
        forgetValues();
        return other;
    }

    /** Promise 3. */
    public int addType() throws IllegalStateException {
        if (grammar.types >= MOST_TYPES) {
            throw new IllegalStateException("there are 4 types");
        }
        grammar.types++;
        forgetValues();
        return grammar.types - 1;
    }

    /** Promise 4. */
    public int addConstructor(int type, int first, int second, int third, int condition)
            throws IndexOutOfBoundsException, IllegalArgumentException, IllegalStateException {
        requireType(type);
        if (!grammar.allowsParameters(first, second, third)) {
            throw new IllegalArgumentException("no such parameters");
        }
        if (condition < NONE || condition > EVEN) {
            throw new IllegalArgumentException("no such condition");
        }
        if (grammar.constructors >= MOST_CONSTRUCTORS) {
            throw new IllegalStateException("there are 6 constructors");
        }
        grammar.append(type, first, second, third, condition);
        forgetValues();
        return grammar.constructors - 1;
    }

    /** Promise 5. */
    public int typeCount() {
        return grammar.types;
    }

    /** Promise 6. */
    public int horizon() {
        stock.refresh();
        return stock.reach;
    }

    /** Promise 7. */
    public int count(int type, int size)
            throws IndexOutOfBoundsException, IllegalArgumentException, IllegalStateException {
        requireType(type);
        requireSize(size);
        requireKnown(size);
        return stock.upTo(type, size) - stock.upTo(type, size - 1);
    }

    /** Promise 8. */
    public int total(int type, int size)
            throws IndexOutOfBoundsException, IllegalArgumentException, IllegalStateException {
        requireType(type);
        requireSize(size);
        requireKnown(size);
        return stock.upTo(type, size);
    }

    /** Promise 9. */
    public int firstAgainst(int type, int property, int size)
            throws IndexOutOfBoundsException, IllegalArgumentException, IllegalStateException {
        requireType(type);
        requireProperty(property);
        requireSize(size);
        requireKnown(size);
        int end = stock.upTo(type, size);
        for (int rank = 0; rank < end; rank++) {
            Value value = stock.valueAt(type, rank);
            if (value != null && !value.fits(property)) {
                return rank;
            }
        }
        return -1;
    }

    /** Promise 10. */
    public int select(int type, int number)
            throws IndexOutOfBoundsException, IllegalStateException {
        requireType(type);
        stock.refresh();
        Value value = stock.valueAt(type, number);
        if (value == null && (number < 0 || stock.reach == MOST_SIZE)) {
            throw new IndexOutOfBoundsException("no value has this number");
        }
        if (value == null) {
            throw new IllegalStateException("no value up to the horizon has this number");
        }
        selected = value;
        return value.size;
    }

    /** Promise 11. */
    public int draw(int type, int size, long seed)
            throws IndexOutOfBoundsException, IllegalArgumentException, IllegalStateException,
            NoSuchElementException {
        requireType(type);
        requireSize(size);
        requireKnown(size);
        int before = stock.upTo(type, size - 1);
        int choices = stock.upTo(type, size) - before;
        if (choices <= 0) {
            throw new NoSuchElementException("no value of the type has this size");
        }
        long mixed = seed * DRAW_FACTOR + DRAW_STEP;
        int rank = before + (int) ((mixed >>> DRAW_SHIFT) % choices);
        selected = stock.valueAt(type, rank);
        return rank;
    }

    /** Promise 12. */
    public int tell(int code) throws IllegalArgumentException, IllegalStateException {
        boolean isInt = code >= 0 && code <= GREATEST_INT;
        boolean isConstructor = code >= CODE_BASE && code < CODE_BASE + MOST_CONSTRUCTORS;
        if (!isInt && !isConstructor) {
            throw new IllegalArgumentException("no number of a code");
        }
        if (told.kept >= MOST_TOLD) {
            throw new IllegalStateException("there are 40 numbers");
        }
        told.append(code);
        return told.kept;
    }

    /** Promise 13. */
    public int read(int type) throws IndexOutOfBoundsException, IllegalStateException {
        requireType(type);
        stock.refresh();
        Value draft = told.parse(type);
        told.kept = 0;
        if (draft == null) {
            return -1;
        }
        if (draft.size > stock.reach) {
            throw new IllegalStateException("the value is greater than the horizon");
        }
        Value value = stock.find(draft);
        if (value == null) {
            return -1;
        }
        selected = value;
        return value.rank;
    }

    /** Promise 14. */
    public int length() throws IllegalStateException {
        return chosen().codeLength();
    }

    /** Promise 15. */
    public int code(int index) throws IllegalStateException, IndexOutOfBoundsException {
        Value value = chosen();
        if (index < 0 || index >= value.codeLength()) {
            throw new IndexOutOfBoundsException("no such index in the code");
        }
        selectedCode.write(value);
        return selectedCode.at(index);
    }

    /** Promise 16. */
    public int number() throws IllegalStateException {
        return chosen().rank;
    }

    /** Promise 17. */
    public int height() throws IllegalStateException {
        return chosen().height;
    }

    /** Promise 18. */
    public double mean() throws IllegalStateException {
        Value value = chosen();
        if (value.intCount <= 0) {
            return 0.0;
        }
        return (double) value.intSum / (double) value.intCount;
    }

    /** Promise 19. */
    public boolean holds(int property) throws IllegalStateException, IllegalArgumentException {
        Value value = chosen();
        requireProperty(property);
        return value.fits(property);
    }

    /** Promise 20. */
    public int reductionCount() throws IllegalStateException {
        reductions.collect(chosen(), stock);
        return reductions.kept;
    }

    /** Promise 21. */
    public int reduction(int index) throws IllegalStateException, IndexOutOfBoundsException {
        reductions.collect(chosen(), stock);
        Value value = reductions.at(index);
        if (value == null) {
            throw new IndexOutOfBoundsException("no such reduction");
        }
        return value.rank;
    }

    /** Promise 22. */
    public int reduce(int property) throws IllegalStateException, IllegalArgumentException {
        Value value = chosen();
        requireProperty(property);
        int steps = 0;
        // A reduction's number is smaller than that of its value, so the steps are fewer than the values.
        while (steps < MOST_VALUES && !value.fits(property)) {
            reductions.collect(value, stock);
            Value smaller = reductions.firstUnfit(property);
            if (smaller == null) {
                break;
            }
            value = smaller;
            steps++;
        }
        selected = value;
        return steps;
    }

    /** Promise 23. */
    public long digest() {
        long d = DIGEST_START;
        d = d * DIGEST_FACTOR + grammar.low;
        d = d * DIGEST_FACTOR + grammar.high;
        d = d * DIGEST_FACTOR + grammar.types;
        d = d * DIGEST_FACTOR + grammar.constructors;
        for (int constructor = 0; constructor < grammar.constructors; constructor++) {
            d = d * DIGEST_FACTOR + grammar.typeOf(constructor);
            for (int place = 0; place < MOST_PARAMETERS; place++) {
                d = d * DIGEST_FACTOR + grammar.parameter(constructor, place);
            }
            d = d * DIGEST_FACTOR + grammar.conditionOf(constructor);
        }
        d = d * DIGEST_FACTOR + told.kept;
        if (selected != null) {
            selectedCode.write(selected);
            for (int index = 0; index < selectedCode.kept; index++) {
                d = d * DIGEST_FACTOR + selectedCode.at(index);
            }
        }
        return d;
    }

    private void forgetValues() {
        stock.fresh = false;
        selected = null;
    }

    private Value chosen() {
        if (selected == null) {
            throw new IllegalStateException("no value is selected");
        }
        return selected;
    }

    private void requireType(int type) {
        if (!grammar.hasType(type)) {
            throw new IndexOutOfBoundsException("no such type");
        }
    }

    private void requireProperty(int property) {
        if (property < ORDER || property > EVEN) {
            throw new IllegalArgumentException("no such property");
        }
    }

    private void requireSize(int size) {
        if (size < 1 || size > MOST_SIZE) {
            throw new IllegalArgumentException("no size from 1 to 8");
        }
    }

    private void requireKnown(int size) {
        stock.refresh();
        if (size > stock.reach) {
            throw new IllegalStateException("the size is greater than the horizon");
        }
    }

    /** The range, the types and the constructors. */
    private static final class Grammar {
        int low;
        int high;
        int types;
        int constructors;
        final int[] owners;
        final int[] parameters;
        /** For each constructor and place, how many parameters from there on are types. */
        final int[] typesAhead;
        final int[] conditions;

        Grammar() {
            low = 0;
            high = 2;
            types = 0;
            constructors = 0;
            owners = new int[MOST_CONSTRUCTORS];
            parameters = new int[MOST_CONSTRUCTORS * MOST_PARAMETERS];
            typesAhead = new int[MOST_CONSTRUCTORS * MOST_PARAMETERS];
            conditions = new int[MOST_CONSTRUCTORS];
        }

        boolean hasType(int type) {
            return type >= 0 && type < types;
        }

        boolean hasConstructor(int constructor) {
            return constructor >= 0 && constructor < constructors && constructor < MOST_CONSTRUCTORS;
        }

        boolean allowsParameters(int first, int second, int third) {
            if (!isParameter(first) || !isParameter(second) || !isParameter(third)) {
                return false;
            }
            boolean gap = first == NO_PARAMETER && second != NO_PARAMETER
                    || second == NO_PARAMETER && third != NO_PARAMETER;
            return !gap && !(hasType(first) && hasType(second) && hasType(third));
        }

        private boolean isParameter(int parameter) {
            return parameter == NO_PARAMETER || parameter == INT || hasType(parameter);
        }

        void append(int type, int first, int second, int third, int condition) {
            if (constructors < 0 || constructors >= MOST_CONSTRUCTORS) {
                return;
            }
            int start = constructors * MOST_PARAMETERS;
            owners[constructors] = type;
            parameters[start] = first;
            parameters[start + 1] = second;
            parameters[start + 2] = third;
            typesAhead[start + 2] = hasType(third) ? 1 : 0;
            typesAhead[start + 1] = typesAhead[start + 2] + (hasType(second) ? 1 : 0);
            typesAhead[start] = typesAhead[start + 1] + (hasType(first) ? 1 : 0);
            conditions[constructors] = condition;
            constructors++;
        }

        int typeOf(int constructor) {
            return hasConstructor(constructor) ? owners[constructor] : -1;
        }

        int conditionOf(int constructor) {
            return hasConstructor(constructor) ? conditions[constructor] : NONE;
        }

        int parameter(int constructor, int place) {
            if (!hasConstructor(constructor) || place < 0 || place >= MOST_PARAMETERS) {
                return NO_PARAMETER;
            }
            return parameters[constructor * MOST_PARAMETERS + place];
        }

        /** How many parameters, from a place on, are types. */
        int typesFrom(int constructor, int place) {
            if (!hasConstructor(constructor) || place < 0 || place >= MOST_PARAMETERS) {
                return 0;
            }
            return typesAhead[constructor * MOST_PARAMETERS + place];
        }
    }

    /**
     * A value, or the beginning of one with its first arguments. What the conditions ask is kept
     * up to date with each argument, so that none of them has to walk through the value.
     */
    private static final class Value {
        int type;
        int rank;
        int constructor;
        int arguments;
        final int[] numbers;
        /** The arguments that are values; null where a number is the argument. */
        final Value[] parts;
        int size;
        int height;
        int lowestPart;
        int firstNumber;
        int intCount;
        int intSum;
        int leastInt;
        int lastInt;
        int firstInt;
        boolean ascending;

        Value() {
            numbers = new int[MOST_PARAMETERS];
            parts = new Value[MOST_PARAMETERS];
        }

        void begin(int ownType, int ownConstructor) {
            type = ownType;
            rank = -1;
            constructor = ownConstructor;
            arguments = 0;
            size = 1;
            height = 1;
            lowestPart = 0;
            firstNumber = -1;
            intCount = 0;
            intSum = 0;
            leastInt = 0;
            firstInt = 0;
            lastInt = 0;
            ascending = true;
        }

        void copyFrom(Value other) {
            type = other.type;
            rank = other.rank;
            constructor = other.constructor;
            arguments = other.arguments;
            for (int place = 0; place < arguments && place < MOST_PARAMETERS; place++) {
                numbers[place] = other.numbers[place];
                parts[place] = other.parts[place];
            }
            size = other.size;
            height = other.height;
            lowestPart = other.lowestPart;
            firstNumber = other.firstNumber;
            intCount = other.intCount;
            intSum = other.intSum;
            leastInt = other.leastInt;
            firstInt = other.firstInt;
            lastInt = other.lastInt;
            ascending = other.ascending;
        }

        void addNumber(int number) {
            if (arguments < 0 || arguments >= MOST_PARAMETERS) {
                return;
            }
            numbers[arguments] = number;
            parts[arguments] = null;
            arguments++;
            if (firstNumber < 0) {
                firstNumber = number;
            }
            joinInts(number, number, number);
            intCount++;
            intSum += number;
        }

        void addPart(Value part) {
            if (arguments < 0 || arguments >= MOST_PARAMETERS) {
                return;
            }
            numbers[arguments] = 0;
            parts[arguments] = part;
            arguments++;
            size += part.size;
            height = part.height >= height ? part.height + 1 : height;
            lowestPart = lowestPart == 0 || part.height < lowestPart ? part.height : lowestPart;
            if (part.intCount > 0) {
                joinInts(part.firstInt, part.lastInt, part.leastInt);
                ascending = ascending && part.ascending;
                intCount += part.intCount;
                intSum += part.intSum;
            }
        }

        /** Takes in the ends and the least of some ints that follow, before they are counted. */
        private void joinInts(int first, int last, int least) {
            if (intCount == 0) {
                firstInt = first;
                leastInt = least;
            } else {
                ascending = ascending && lastInt < first;
                leastInt = least < leastInt ? least : leastInt;
            }
            lastInt = last;
        }

        boolean fits(int condition) {
            switch (condition) {
                case ORDER:
                    return ascending;
                case HEAP:
                    return firstNumber < 0 || firstNumber <= leastInt;
                case LEVEL:
                    return partsDiffer() == 0;
                case BALANCE:
                    return partsDiffer() <= 1;
                case EVEN:
                    return intSum % 2 == 0;
                default:
                    return true;
            }
        }

        /** Whether a condition is surely false if a part comes next: spares making most wrong values. */
        boolean clashesWith(Value part, int condition) {
            switch (condition) {
                case ORDER:
                    return intCount > 0 && part.intCount > 0 && lastInt >= part.firstInt;
                case LEVEL:
                    return lowestPart > 0 && part.height != lowestPart;
                case BALANCE:
                    return lowestPart > 0 && Math.abs(part.height - lowestPart) > 1;
                default:
                    return false;
            }
        }

        /** By how much the greatest and the least height of its parts differ; 0 if it has none. */
        private int partsDiffer() {
            return height - 1 - lowestPart;
        }

        int codeLength() {
            return size + intCount;
        }

        /** The argument at a place if it is a value; else null. */
        Value partAt(int place) {
            return place >= 0 && place < arguments && place < MOST_PARAMETERS ? parts[place] : null;
        }

        /** In how many ints it differs from another value; FAR_APART or more if not in ints alone. */
        int differsFrom(Value other) {
            return distance(this, other, 0);
        }

        private static int distance(Value one, Value other, int depth) {
            if (one == null || other == null || depth > MOST_SIZE
                    || one.constructor != other.constructor) {
                return FAR_APART;
            }
            int sum = 0;
            for (int place = 0; place < one.arguments && place < MOST_PARAMETERS; place++) {
                if (one.parts[place] != null) {
                    sum += distance(one.parts[place], other.parts[place], depth + 1);
                } else if (one.numbers[place] != other.numbers[place]) {
                    sum++;
                }
            }
            return sum;
        }
    }

    /** All values up to the horizon, type by type in their order. */
    private static final class Stock {
        private final Grammar grammar;
        private final Value[] pool;
        private final Value[] ordered;
        private final int[] kept;
        /** For each type and size, how many values have at most this size. */
        private final int[] ends;
        /** At an index: the beginning, with so many arguments, of the value that is being made. */
        private final Value[] beginnings;
        private int used;
        private boolean overfull;
        int reach;
        boolean fresh;

        Stock(Grammar ownGrammar) {
            grammar = ownGrammar;
            pool = new Value[MOST_VALUES];
            for (int index = 0; index < pool.length; index++) {
                pool[index] = new Value();
            }
            ordered = new Value[MOST_TYPES * MOST_VALUES];
            kept = new int[MOST_TYPES];
            ends = new int[MOST_TYPES * (MOST_SIZE + 1)];
            beginnings = new Value[MOST_PARAMETERS + 1];
            for (int index = 0; index < beginnings.length; index++) {
                beginnings[index] = new Value();
            }
            used = 0;
            overfull = false;
            reach = 0;
            fresh = false;
        }

        int upTo(int type, int size) {
            if (type < 0 || type >= MOST_TYPES || size < 0 || size > MOST_SIZE) {
                return 0;
            }
            return ends[type * (MOST_SIZE + 1) + size];
        }

        /** The value of a type with a number; null if it is not known. */
        Value valueAt(int type, int rank) {
            if (type < 0 || type >= MOST_TYPES || rank < 0 || rank >= MOST_VALUES
                    || rank >= kept[type]) {
                return null;
            }
            return ordered[type * MOST_VALUES + rank];
        }

        /** The known value that is the same as a draft; null if there is none. */
        Value find(Value draft) {
            int end = upTo(draft.type, draft.size);
            for (int rank = upTo(draft.type, draft.size - 1); rank < end; rank++) {
                Value value = valueAt(draft.type, rank);
                if (draft.differsFrom(value) == 0) {
                    return value;
                }
            }
            return null;
        }

        void refresh() {
            if (fresh) {
                return;
            }
            used = 0;
            overfull = false;
            reach = 0;
            for (int type = 0; type < MOST_TYPES; type++) {
                kept[type] = 0;
            }
            for (int size = 1; size <= MOST_SIZE && !overfull; size++) {
                makeSize(size);
                closeSize(size);
            }
            fresh = true;
        }

        private void makeSize(int size) {
            Value beginning = beginnings[0];
            if (beginning == null) {
                return;
            }
            for (int constructor = 0; constructor < grammar.constructors && !overfull; constructor++) {
                beginning.begin(grammar.typeOf(constructor), constructor);
                extend(beginning, size - 1);
            }
        }

        private void closeSize(int size) {
            for (int type = 0; type < MOST_TYPES; type++) {
                if (overfull) {
                    kept[type] = upTo(type, size - 1);
                } else {
                    ends[type * (MOST_SIZE + 1) + size] = kept[type];
                }
            }
            if (!overfull) {
                reach = size;
            }
        }

        /** Makes all values with a beginning, whose further parts have the sizes that are left. */
        private void extend(Value beginning, int left) {
            int parameter = grammar.parameter(beginning.constructor, beginning.arguments);
            int wanted = grammar.typesFrom(beginning.constructor, beginning.arguments);
            boolean wrongSize = wanted == 0 ? left != 0 : left < wanted;
            if (wrongSize || isHopeless(beginning, parameter == NO_PARAMETER)) {
                return;
            }
            if (parameter == NO_PARAMETER) {
                keep(beginning);
            } else if (parameter == INT) {
                extendByNumbers(beginning, left);
            } else {
                extendByParts(beginning, parameter, left, wanted);
            }
        }

        /** Further arguments can mend EVEN; the other conditions stay false when they are false once. */
        private boolean isHopeless(Value beginning, boolean complete) {
            int condition = grammar.conditionOf(beginning.constructor);
            return (complete || condition != EVEN) && !beginning.fits(condition);
        }

        private void extendByNumbers(Value beginning, int left) {
            for (int number = grammar.low; number <= grammar.high && !overfull; number++) {
                Value longer = copyToExtend(beginning);
                if (longer != null) {
                    longer.addNumber(number);
                    extend(longer, left);
                }
            }
        }

        private void extendByParts(Value beginning, int type, int left, int wanted) {
            int condition = grammar.conditionOf(beginning.constructor);
            int leastSize = wanted == 1 ? left : 1;
            int end = upTo(type, left - (wanted - 1));
            for (int rank = upTo(type, leastSize - 1); rank < end && !overfull; rank++) {
                Value part = valueAt(type, rank);
                if (part == null || beginning.clashesWith(part, condition)) {
                    continue;
                }
                Value longer = copyToExtend(beginning);
                if (longer != null) {
                    longer.addPart(part);
                    extend(longer, left - part.size);
                }
            }
        }

        private Value copyToExtend(Value beginning) {
            int index = beginning.arguments + 1;
            if (index < 1 || index >= beginnings.length || beginnings[index] == null) {
                return null;
            }
            beginnings[index].copyFrom(beginning);
            return beginnings[index];
        }

        private void keep(Value complete) {
            int type = complete.type;
            if (used < 0 || used >= MOST_VALUES || pool[used] == null) {
                overfull = true;
                return;
            }
            if (type < 0 || type >= MOST_TYPES || kept[type] < 0 || kept[type] >= MOST_VALUES) {
                return;
            }
            Value value = pool[used];
            value.copyFrom(complete);
            value.rank = kept[type];
            ordered[type * MOST_VALUES + kept[type]] = value;
            kept[type]++;
            used++;
        }
    }

    /** The numbers that are told, and how they are read. */
    private static final class Told {
        private final Grammar grammar;
        private final int[] numbers;
        /** The values within the one that is read: more than MOST_SIZE are too many for its size. */
        private final Value[] drafts;
        private int opened;
        private int position;
        int kept;

        Told(Grammar ownGrammar) {
            grammar = ownGrammar;
            numbers = new int[MOST_TOLD];
            drafts = new Value[MOST_SIZE];
            for (int index = 0; index < drafts.length; index++) {
                drafts[index] = new Value();
            }
            opened = 0;
            position = 0;
            kept = 0;
        }

        void append(int number) {
            if (kept >= 0 && kept < MOST_TOLD) {
                numbers[kept] = number;
                kept++;
            }
        }

        /** The value whose code is all that is told; null if there is none. It may be unknown. */
        Value parse(int type) {
            opened = 0;
            position = 0;
            Value value = parseValue(type);
            return position == kept ? value : null;
        }

        private Value parseValue(int type) {
            int constructor = next() - CODE_BASE;
            if (!grammar.hasConstructor(constructor) || grammar.typeOf(constructor) != type) {
                return null;
            }
            if (opened < 0 || opened >= MOST_SIZE || drafts[opened] == null) {
                return null;
            }
            Value draft = drafts[opened];
            opened++;
            draft.begin(type, constructor);
            for (int place = 0; place < MOST_PARAMETERS; place++) {
                int parameter = grammar.parameter(constructor, place);
                if (parameter != NO_PARAMETER && !parseArgument(draft, parameter)) {
                    return null;
                }
            }
            return draft.fits(grammar.conditionOf(constructor)) ? draft : null;
        }

        private boolean parseArgument(Value draft, int parameter) {
            if (parameter == INT) {
                int number = next();
                if (number < grammar.low || number > grammar.high) {
                    return false;
                }
                draft.addNumber(number);
                return true;
            }
            Value part = parseValue(parameter);
            if (part == null) {
                return false;
            }
            draft.addPart(part);
            return true;
        }

        /** The next number; -1, which is none of a code, behind the last one. */
        private int next() {
            if (position < 0 || position >= kept || position >= MOST_TOLD) {
                return -1;
            }
            position++;
            return numbers[position - 1];
        }
    }

    /** The code of a value, written out. */
    private static final class Code {
        private final int[] numbers;
        int kept;

        Code() {
            numbers = new int[MOST_SIZE * (MOST_PARAMETERS + 1)];
            kept = 0;
        }

        int at(int index) {
            return index >= 0 && index < kept && index < numbers.length ? numbers[index] : -1;
        }

        void write(Value value) {
            kept = 0;
            appendValue(value, 0);
        }

        private void appendValue(Value value, int depth) {
            if (depth > MOST_SIZE) {
                return;
            }
            append(CODE_BASE + value.constructor);
            for (int place = 0; place < value.arguments && place < MOST_PARAMETERS; place++) {
                Value part = value.partAt(place);
                if (part != null) {
                    appendValue(part, depth + 1);
                } else {
                    append(value.numbers[place]);
                }
            }
        }

        private void append(int number) {
            if (kept >= 0 && kept < numbers.length) {
                numbers[kept] = number;
                kept++;
            }
        }
    }

    /** The reductions of a value. */
    private static final class Reductions {
        private final Value[] values;
        int kept;

        Reductions() {
            values = new Value[MOST_VALUES];
            kept = 0;
        }

        Value at(int index) {
            return index >= 0 && index < kept && index < values.length ? values[index] : null;
        }

        /** The first reduction of which a property is false; null if there is none. */
        Value firstUnfit(int property) {
            for (int index = 0; index < kept; index++) {
                Value value = at(index);
                if (value != null && !value.fits(property)) {
                    return value;
                }
            }
            return null;
        }

        /**
         * The values with one smaller int are all in the stock, before the value, and their order
         * there is the one that is asked: of two of them, the one that is changed further left
         * comes first, and of two that are changed at one place, the one with the smaller number.
         */
        void collect(Value value, Stock stock) {
            kept = 0;
            addPartsOf(value, value.type, 0);
            for (int rank = stock.upTo(value.type, value.size - 1); rank < value.rank; rank++) {
                Value other = stock.valueAt(value.type, rank);
                if (value.differsFrom(other) == 1) {
                    append(other);
                }
            }
        }

        private void addPartsOf(Value value, int type, int depth) {
            for (int place = 0; place < MOST_PARAMETERS && depth <= MOST_SIZE; place++) {
                Value part = value.partAt(place);
                if (part != null) {
                    if (part.type == type && !has(part.rank)) {
                        append(part);
                    }
                    addPartsOf(part, type, depth + 1);
                }
            }
        }

        private boolean has(int rank) {
            for (int index = 0; index < kept; index++) {
                Value value = at(index);
                if (value != null && value.rank == rank) {
                    return true;
                }
            }
            return false;
        }

        private void append(Value value) {
            if (kept >= 0 && kept < values.length) {
                values[kept] = value;
                kept++;
            }
        }
    }
}
