import java.lang.reflect.InvocationTargetException;
import java.lang.reflect.Method;
import java.util.ArrayList;
import java.util.List;
import java.util.Random;

/**
 * Long runs of calls, the same on DataMaker and on PlainModel: every answer must be the same.
 * The runs come from fixed seeds; an argument tells how many, and a second one the first seed.
 */
public final class ModelRuns {
    private static final int CALLS = 512;
    private static int wrong = 0;
    private static int calls = 0;

    private final Random random;
    private final long seed;
    /** One argument of so many is an edge or beyond it; in every fourth run nearly each call has one. */
    private final int strangeOneIn;
    private final DataMaker maker = new DataMaker();
    private final PlainModel model = new PlainModel();
    private final List<String> log = new ArrayList<>();
    private int made = 0;

    private ModelRuns(long seed) {
        this.seed = seed;
        this.strangeOneIn = seed % 4 == 0 ? 5 : 25;
        this.random = new Random(seed);
    }

    public static void main(String[] args) {
        int runs = args.length > 0 ? Integer.parseInt(args[0]) : 400;
        long first = args.length > 1 ? Long.parseLong(args[1]) : 1;
        for (long seed = first; seed < first + runs && wrong < 5; seed++) {
            new ModelRuns(seed).run();
        }
        System.out.println(calls + " calls compared, " + wrong + " answers are not as due");
        if (wrong != 0) {
            System.exit(1);
        }
    }

    private void run() {
        int before = wrong;
        grammar();
        while (made < CALLS && wrong == before) {
            step();
        }
    }

    private int below(int bound) {
        return random.nextInt(bound);
    }

    private boolean oneOf(int n) {
        return below(n) == 0;
    }

    private int odd(int usual) {
        int[] strange = {-1, -2, 0, 1, 4, 5, 6, 8, 9, 10, 99, 105, 106, 299, 300, Integer.MIN_VALUE, Integer.MAX_VALUE};
        return oneOf(strangeOneIn) ? strange[below(strange.length)] : usual;
    }

    private int type() {
        return odd(below(Math.max(1, model.typeCount())));
    }

    private int size() {
        return odd(oneOf(3) ? 1 + below(8) : 1 + below(Math.max(1, model.horizon())));
    }

    private int property() {
        return odd(1 + below(5));
    }

    private void grammar() {
        if (oneOf(4)) {
            setRange();
        }
        int types = 1 + below(oneOf(2) ? 2 : 4);
        for (int i = 0; i < types; i++) {
            call("addType");
        }
        int constructors = 1 + below(6);
        for (int i = 0; i < constructors; i++) {
            addConstructor();
        }
    }

    private void setRange() {
        int low = below(3);
        call("setRange", odd(low), odd(oneOf(3) ? 5 : low + below(3)));
    }

    private int parameter() {
        int choice = below(10);
        return odd(choice < 3 ? -1 : choice < 6 ? 9 : below(Math.max(1, model.typeCount())));
    }

    private void addConstructor() {
        int first = parameter();
        int second = first == -1 ? odd(-1) : parameter();
        int third = second == -1 ? odd(-1) : parameter();
        call("addConstructor", type(), first, second, third, odd(below(6)));
    }

    private void step() {
        switch (below(30)) {
            case 0 -> rare();
            case 1 -> call("horizon");
            case 2, 3 -> call("count", type(), size());
            case 4, 5 -> call("total", type(), size());
            case 6, 7 -> call("firstAgainst", type(), property(), size());
            case 8, 9, 10 -> call("select", type(), number());
            case 11, 12, 13 -> call("draw", type(), size(), random.nextLong());
            case 14, 15, 16 -> tellAndRead();
            case 17 -> call("length");
            case 18 -> wholeCode();
            case 19 -> call("number");
            case 20 -> call("height");
            case 21 -> call("mean");
            case 22, 23 -> call("holds", property());
            case 24 -> call("reductionCount");
            case 25, 26 -> wholeReductions();
            case 27 -> call("reduce", property());
            case 28 -> call("typeCount");
            default -> call("digest");
        }
    }

    private void rare() {
        switch (below(8)) {
            case 0 -> call("addType");
            case 1, 2 -> addConstructor();
            case 3 -> setRange();
            default -> call("digest");
        }
    }

    private int number() {
        int type = below(Math.max(1, model.typeCount()));
        int known = type < model.typeCount() ? model.knownValues(type) : 0;
        return odd(oneOf(10) ? known : below(Math.max(1, known)));
    }

    private void wholeCode() {
        for (int index = 0; index < 26; index += 1 + below(3)) {
            call("code", odd(index));
        }
    }

    private void wholeReductions() {
        for (int index = 0; index < 20; index += 1 + below(3)) {
            call("reduction", odd(index));
        }
    }

    private void tellAndRead() {
        int type = below(Math.max(1, model.typeCount()));
        List<Integer> code = new ArrayList<>();
        if (type < model.typeCount() && model.knownValues(type) > 0 && oneOf(2)) {
            code.addAll(model.codeAt(type, below(model.knownValues(type))));
        } else {
            grow(type, code, 0);
        }
        if (oneOf(5) && !code.isEmpty()) {
            code.set(below(code.size()), oneOf(2) ? below(6) : 100 + below(6));
        }
        if (oneOf(10)) {
            code.add(below(6));
        }
        if (oneOf(10) && !code.isEmpty()) {
            code.remove(code.size() - 1);
        }
        for (int x : code) {
            call("tell", odd(x));
        }
        if (!oneOf(8)) {
            call("read", odd(oneOf(10) ? type() : type));
        }
    }

    /** Any code of the type's shape, also far beyond the horizon. */
    private void grow(int type, List<Integer> code, int depth) {
        List<Integer> choices = new ArrayList<>();
        for (int c = 0; c < model.constructorCount(); c++) {
            if (model.rule(c)[0] == type) {
                choices.add(c);
            }
        }
        if (choices.isEmpty() || depth > 12 || code.size() > 42) {
            return;
        }
        int constructor = choices.get(below(choices.size()));
        code.add(100 + constructor);
        for (int place = 1; place <= 3; place++) {
            int parameter = model.rule(constructor)[place];
            if (parameter == 9) {
                code.add(model.low() + below(model.high() - model.low() + 1));
            } else if (parameter >= 0) {
                grow(parameter, code, depth + 1);
            }
        }
    }

    private void call(String name, Object... args) {
        if (made >= CALLS) {
            return;
        }
        made++;
        calls++;
        String want = answer(model, name, args);
        String got = answer(maker, name, args);
        log.add(name + List.of(args) + " -> " + got);
        if (!want.equals(got)) {
            wrong++;
            System.out.println("seed " + seed + ": " + name + List.of(args)
                    + " answered " + got + ", due is " + want + " behind " + log);
        }
    }

    private static String answer(Object target, String name, Object[] args) {
        for (Method method : target.getClass().getMethods()) {
            if (method.getName().equals(name) && method.getParameterCount() == args.length) {
                try {
                    return String.valueOf(method.invoke(target, args));
                } catch (InvocationTargetException e) {
                    return "throws." + e.getCause().getClass().getSimpleName();
                } catch (IllegalAccessException e) {
                    throw new AssertionError(e);
                }
            }
        }
        throw new AssertionError("no method " + name);
    }
}
