import java.util.ArrayList;
import java.util.Comparator;
import java.util.List;
import java.util.NoSuchElementException;

/**
 * The document once more, word by word and without any care for speed: values are trees, each
 * question walks through them. ModelRuns compares DataMaker with it.
 */
public final class PlainModel {
    record Node(int constructor, List<Object> arguments) {
    }

    private int low = 0;
    private int high = 2;
    private int types = 0;
    private final List<int[]> constructors = new ArrayList<>();
    private List<Integer> told = new ArrayList<>();
    private Node selected = null;

    private boolean known = false;
    private int reach;
    private List<List<Node>> values;

    // ---- what the description says of values

    static List<Integer> ints(Node value) {
        List<Integer> all = new ArrayList<>();
        for (Object argument : value.arguments()) {
            if (argument instanceof Node part) {
                all.addAll(ints(part));
            } else {
                all.add((Integer) argument);
            }
        }
        return all;
    }

    static List<Node> parts(Node value) {
        List<Node> all = new ArrayList<>();
        for (Object argument : value.arguments()) {
            if (argument instanceof Node part) {
                all.add(part);
            }
        }
        return all;
    }

    static List<Integer> codeOf(Node value) {
        List<Integer> all = new ArrayList<>();
        all.add(100 + value.constructor());
        for (Object argument : value.arguments()) {
            if (argument instanceof Node part) {
                all.addAll(codeOf(part));
            } else {
                all.add((Integer) argument);
            }
        }
        return all;
    }

    static int sizeOf(Node value) {
        return 1 + parts(value).stream().mapToInt(PlainModel::sizeOf).sum();
    }

    static int heightOf(Node value) {
        return 1 + parts(value).stream().mapToInt(PlainModel::heightOf).max().orElse(0);
    }

    static boolean isTrue(int condition, Node value) {
        List<Integer> ints = ints(value);
        List<Integer> heights = parts(value).stream().map(PlainModel::heightOf).toList();
        switch (condition) {
            case 0:
                return true;
            case 1:
                for (int i = 1; i < ints.size(); i++) {
                    if (ints.get(i - 1) >= ints.get(i)) {
                        return false;
                    }
                }
                return true;
            case 2:
                for (Object argument : value.arguments()) {
                    if (argument instanceof Integer number) {
                        return ints.stream().noneMatch(other -> number > other);
                    }
                }
                return true;
            case 3:
                return heights.stream().distinct().count() <= 1;
            case 4:
                for (int one : heights) {
                    for (int other : heights) {
                        if (one - other > 1) {
                            return false;
                        }
                    }
                }
                return true;
            case 5:
                return ints.stream().mapToInt(i -> i).sum() % 2 == 0;
            default:
                throw new AssertionError("condition " + condition);
        }
    }

    private boolean isValue(Node node) {
        if (!isTrue(constructors.get(node.constructor())[4], node)) {
            return false;
        }
        for (Object argument : node.arguments()) {
            if (argument instanceof Node part && !isValue(part)) {
                return false;
            }
            if (argument instanceof Integer number && (number < low || number > high)) {
                return false;
            }
        }
        return true;
    }

    private static final Comparator<Node> ORDER = new Comparator<>() {
        @Override
        public int compare(Node one, Node other) {
            if (sizeOf(one) != sizeOf(other)) {
                return sizeOf(one) - sizeOf(other);
            }
            if (one.constructor() != other.constructor()) {
                return one.constructor() - other.constructor();
            }
            for (int i = 0; i < one.arguments().size(); i++) {
                Object a = one.arguments().get(i);
                Object b = other.arguments().get(i);
                int sign = a instanceof Node part ? compare(part, (Node) b) : (Integer) a - (Integer) b;
                if (sign != 0) {
                    return sign;
                }
            }
            return 0;
        }
    };

    private int typeOf(Node value) {
        return constructors.get(value.constructor())[0];
    }

    private int numberOf(Node value) {
        return all().get(typeOf(value)).indexOf(value);
    }

    // ---- all values

    private List<List<Node>> all() {
        if (!known) {
            makeAll();
            known = true;
        }
        return values;
    }

    private void makeAll() {
        values = new ArrayList<>();
        for (int type = 0; type < types; type++) {
            values.add(new ArrayList<>());
        }
        int sum = 0;
        reach = 0;
        for (int size = 1; size <= 8; size++) {
            List<Node> found = new ArrayList<>();
            for (int constructor = 0; constructor < constructors.size(); constructor++) {
                make(constructor, new ArrayList<>(), size - 1, 300 - sum, found);
            }
            if (sum + found.size() > 300) {
                return;
            }
            sum += found.size();
            found.sort(ORDER);
            for (Node value : found) {
                values.get(typeOf(value)).add(value);
            }
            reach = size;
        }
    }

    private void make(int constructor, List<Object> arguments, int left, int room, List<Node> found) {
        int[] rule = constructors.get(constructor);
        int place = arguments.size();
        if (found.size() > room || left < 0) {
            return;
        }
        if (place == 3 || rule[1 + place] == -1) {
            Node value = new Node(constructor, List.copyOf(arguments));
            if (left == 0 && isTrue(rule[4], value)) {
                found.add(value);
            }
            return;
        }
        List<Object> choices = new ArrayList<>();
        if (rule[1 + place] == 9) {
            for (int number = low; number <= high; number++) {
                choices.add(number);
            }
        } else {
            choices.addAll(values.get(rule[1 + place]));
        }
        for (Object choice : choices) {
            List<Object> longer = new ArrayList<>(arguments);
            longer.add(choice);
            int size = choice instanceof Node part ? sizeOf(part) : 0;
            make(constructor, longer, left - size, room, found);
        }
    }

    // ---- the face

    private void changed() {
        known = false;
        selected = null;
    }

    private void type(int type) {
        if (type < 0 || type >= types) {
            throw new IndexOutOfBoundsException();
        }
    }

    private void size(int size) {
        if (size < 1 || size > 8) {
            throw new IllegalArgumentException();
        }
    }

    private void within(int size) {
        if (size > horizon()) {
            throw new IllegalStateException();
        }
    }

    private void property(int property) {
        if (property < 1 || property > 5) {
            throw new IllegalArgumentException();
        }
    }

    private Node value() {
        if (selected == null) {
            throw new IllegalStateException();
        }
        return selected;
    }

    public boolean setRange(int newLow, int newHigh) {
        if (newLow < 0 || newHigh > 5 || newLow > newHigh) {
            throw new IllegalArgumentException();
        }
        boolean other = low != newLow || high != newHigh;
        low = newLow;
        high = newHigh;
        changed();
        return other;
    }

    public int addType() {
        if (types == 4) {
            throw new IllegalStateException();
        }
        changed();
        return types++;
    }

    public int addConstructor(int type, int first, int second, int third, int condition) {
        type(type);
        int[] parameters = {first, second, third};
        int asTypes = 0;
        for (int i = 0; i < 3; i++) {
            int parameter = parameters[i];
            boolean isType = parameter >= 0 && parameter < types;
            asTypes += isType ? 1 : 0;
            if (!isType && parameter != 9 && parameter != -1) {
                throw new IllegalArgumentException();
            }
            for (int j = 0; j < i; j++) {
                if (parameters[j] == -1 && parameter != -1) {
                    throw new IllegalArgumentException();
                }
            }
        }
        if (asTypes == 3 || condition < 0 || condition > 5) {
            throw new IllegalArgumentException();
        }
        if (constructors.size() == 6) {
            throw new IllegalStateException();
        }
        // the condition stands at index 4, behind the type and the three parameters
        constructors.add(new int[] {type, first, second, third, condition});
        changed();
        return constructors.size() - 1;
    }

    public int typeCount() {
        return types;
    }

    public int horizon() {
        all();
        return reach;
    }

    public int count(int type, int size) {
        type(type);
        size(size);
        within(size);
        return (int) all().get(type).stream().filter(v -> sizeOf(v) == size).count();
    }

    public int total(int type, int size) {
        type(type);
        size(size);
        within(size);
        return (int) all().get(type).stream().filter(v -> sizeOf(v) <= size).count();
    }

    public int firstAgainst(int type, int property, int size) {
        type(type);
        property(property);
        size(size);
        within(size);
        List<Node> list = all().get(type);
        for (int i = 0; i < list.size(); i++) {
            if (sizeOf(list.get(i)) <= size && !isTrue(property, list.get(i))) {
                return i;
            }
        }
        return -1;
    }

    public int select(int type, int number) {
        type(type);
        boolean has = number >= 0 && number < all().get(type).size();
        if (number < 0 || horizon() == 8 && !has) {
            throw new IndexOutOfBoundsException();
        }
        if (!has) {
            throw new IllegalStateException();
        }
        selected = all().get(type).get(number);
        return sizeOf(selected);
    }

    public int draw(int type, int size, long seed) {
        type(type);
        size(size);
        within(size);
        List<Node> choices = all().get(type).stream().filter(v -> sizeOf(v) == size).toList();
        if (choices.isEmpty()) {
            throw new NoSuchElementException();
        }
        long x = seed * 6364136223846793005L + 1442695040888963407L;
        StringBuilder bits = new StringBuilder(Long.toBinaryString(x));
        while (bits.length() < 64) {
            bits.insert(0, '0');
        }
        long y = Long.parseLong(bits.substring(0, 31), 2);
        selected = choices.get((int) (y % choices.size()));
        return numberOf(selected);
    }

    public int tell(int code) {
        if (!(code >= 0 && code <= 5) && !(code >= 100 && code <= 105)) {
            throw new IllegalArgumentException();
        }
        if (told.size() == 40) {
            throw new IllegalStateException();
        }
        told.add(code);
        return told.size();
    }

    public int read(int type) {
        type(type);
        List<Integer> rest = new ArrayList<>(told);
        told = new ArrayList<>();
        Node value = takeValue(rest, type);
        if (value == null || !rest.isEmpty() || !isValue(value) || sizeOf(value) > 8) {
            return -1;
        }
        within(sizeOf(value));
        selected = value;
        return numberOf(value);
    }

    private Node takeValue(List<Integer> rest, int type) {
        if (rest.isEmpty()) {
            return null;
        }
        int constructor = rest.remove(0) - 100;
        if (constructor < 0 || constructor >= constructors.size()) {
            return null;
        }
        int[] rule = constructors.get(constructor);
        if (rule[0] != type) {
            return null;
        }
        List<Object> arguments = new ArrayList<>();
        for (int place = 1; place <= 3 && rule[place] != -1; place++) {
            Object argument;
            if (rule[place] == 9) {
                argument = rest.isEmpty() ? null : rest.remove(0);
            } else {
                argument = takeValue(rest, rule[place]);
            }
            if (argument == null) {
                return null;
            }
            arguments.add(argument);
        }
        return new Node(constructor, arguments);
    }

    public int length() {
        return codeOf(value()).size();
    }

    public int code(int index) {
        List<Integer> code = codeOf(value());
        if (index < 0 || index >= code.size()) {
            throw new IndexOutOfBoundsException();
        }
        return code.get(index);
    }

    public int number() {
        return numberOf(value());
    }

    public int height() {
        return heightOf(value());
    }

    public double mean() {
        return ints(value()).stream().mapToInt(i -> i).average().orElse(0);
    }

    public boolean holds(int property) {
        Node value = value();
        property(property);
        return isTrue(property, value);
    }

    public int reductionCount() {
        return reductions(value()).size();
    }

    public int reduction(int index) {
        List<Node> list = reductions(value());
        if (index < 0 || index >= list.size()) {
            throw new IndexOutOfBoundsException();
        }
        return numberOf(list.get(index));
    }

    private List<Node> reductions(Node value) {
        List<Node> list = new ArrayList<>();
        addWithin(value, typeOf(value), list);
        List<Integer> code = codeOf(value);
        for (int i = 0; i < code.size(); i++) {
            if (code.get(i) >= 100) {
                continue;
            }
            for (int number = low; number < code.get(i); number++) {
                List<Integer> changed = new ArrayList<>(code);
                changed.set(i, number);
                Node other = takeValue(changed, typeOf(value));
                if (isValue(other) && !list.contains(other)) {
                    list.add(other);
                }
            }
        }
        return list;
    }

    private void addWithin(Node value, int type, List<Node> list) {
        for (Node part : parts(value)) {
            if (typeOf(part) == type && !list.contains(part)) {
                list.add(part);
            }
            addWithin(part, type, list);
        }
    }

    public int reduce(int property) {
        value();
        property(property);
        int steps = 0;
        while (!isTrue(property, selected)) {
            Node next = reductions(selected).stream().filter(v -> !isTrue(property, v)).findFirst().orElse(null);
            if (next == null) {
                break;
            }
            selected = next;
            steps++;
        }
        return steps;
    }

    public long digest() {
        List<Integer> numbers = new ArrayList<>(List.of(low, high, types, constructors.size()));
        for (int[] rule : constructors) {
            for (int x : rule) {
                numbers.add(x);
            }
        }
        numbers.add(told.size());
        if (selected != null) {
            numbers.addAll(codeOf(selected));
        }
        long d = 137;
        for (int x : numbers) {
            d = d * 31 + x;
        }
        return d;
    }

    // ---- for ModelRuns: what a caller could know

    int constructorCount() {
        return constructors.size();
    }

    int[] rule(int constructor) {
        return constructors.get(constructor);
    }

    int low() {
        return low;
    }

    int high() {
        return high;
    }

    int knownValues(int type) {
        return all().get(type).size();
    }

    List<Integer> codeAt(int type, int number) {
        return codeOf(all().get(type).get(number));
    }
}
