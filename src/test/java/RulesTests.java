import java.lang.reflect.Constructor;
import java.lang.reflect.Field;
import java.lang.reflect.Method;
import java.lang.reflect.Modifier;
import java.nio.file.Files;
import java.nio.file.Path;
import java.util.ArrayList;
import java.util.Arrays;
import java.util.List;
import java.util.TreeSet;
import java.util.regex.Matcher;
import java.util.regex.Pattern;
import java.util.stream.Collectors;

/**
 * What can be seen from outside of the rules of LANGUAGE.md: the face, the sizes of classes and
 * methods, and words that are not to be used. The argument is the path of DataMaker.java.
 */
public final class RulesTests {
    private static final String[] FACE = {
        "boolean setRange(int,int)", "int addType()", "int addConstructor(int,int,int,int,int)",
        "int typeCount()", "int horizon()", "int count(int,int)", "int total(int,int)",
        "int firstAgainst(int,int,int)", "int select(int,int)", "int draw(int,int,long)",
        "int tell(int)", "int read(int)", "int length()", "int code(int)", "int number()",
        "int height()", "double mean()", "boolean holds(int)", "int reductionCount()",
        "int reduction(int)", "int reduce(int)", "long digest()"};

    private static final String[] UNWANTED = {
        "->", "::", "\\btry\\b", "\\bcatch\\b", "\\bfinally\\b", "\\bsynchronized\\b", "\\bassert\\b",
        "\\bSystem\\.(?!arraycopy)", "\\bRandom\\b", "\\bThread\\b", "Exact\\(", "\\bprotected\\b",
        "\\bpackage\\b", "\\.equals\\(", "\\.hashCode\\(", "\\.toString\\(", "\\bMath\\.\\w+\\([^)]*(\\d\\.|double)"};

    private static int wrong = 0;

    public static void main(String[] args) throws Exception {
        face();
        insideClasses();
        String source = Files.readString(Path.of(args[0]));
        words(source);
        methodLengths(source);
        System.out.println("rules: " + wrong + " are broken");
        if (wrong != 0) {
            System.exit(1);
        }
    }

    private static void check(boolean good, String what) {
        if (!good) {
            wrong++;
            System.out.println("broken: " + what);
        }
    }

    private static void face() {
        int type = DataMaker.class.getModifiers();
        check(Modifier.isPublic(type) && Modifier.isFinal(type), "DataMaker is public and final");
        TreeSet<String> found = new TreeSet<>();
        for (Method method : DataMaker.class.getDeclaredMethods()) {
            if (Modifier.isPublic(method.getModifiers())) {
                found.add(method.getReturnType() + " " + method.getName() + "("
                        + Arrays.stream(method.getParameterTypes()).map(Class::getName)
                                .collect(Collectors.joining(",")) + ")");
            } else {
                check(Modifier.isPrivate(method.getModifiers()), "rule 1, the method " + method);
            }
        }
        check(found.equals(new TreeSet<>(List.of(FACE))), "rule 1, the public methods " + found);
        Constructor<?>[] constructors = DataMaker.class.getDeclaredConstructors();
        check(constructors.length == 1 && constructors[0].getParameterCount() == 0
                && Modifier.isPublic(constructors[0].getModifiers()), "rule 1, the constructor");
        for (Field field : DataMaker.class.getDeclaredFields()) {
            check(Modifier.isPrivate(field.getModifiers()), "rule 1, the field " + field);
        }
    }

    private static void insideClasses() {
        List<Class<?>> all = new ArrayList<>(List.of(DataMaker.class.getDeclaredClasses()));
        check(all.size() + 1 <= 12, "rule 11, classes: " + all.size());
        TreeSet<String> publicNames = new TreeSet<>();
        for (String method : FACE) {
            publicNames.add(method.substring(method.indexOf(' ') + 1, method.indexOf('(')));
        }
        all.add(DataMaker.class);
        for (Class<?> one : all) {
            if (one != DataMaker.class) {
                check(Modifier.isStatic(one.getModifiers()) && !Modifier.isPublic(one.getModifiers()),
                        "rule 1, the class " + one);
            }
            int fields = 0;
            for (Field field : one.getDeclaredFields()) {
                boolean isStatic = Modifier.isStatic(field.getModifiers());
                fields += isStatic ? 0 : 1;
                check(!isStatic || Modifier.isFinal(field.getModifiers()), "rule 5, the field " + field);
            }
            check(fields <= 20, "rule 11, fields of " + one);
            for (Method method : one.getDeclaredMethods()) {
                check(method.getParameterCount() <= 7, "rule 11, parameters of " + method);
                boolean isFace = one == DataMaker.class && Modifier.isPublic(method.getModifiers());
                check(isFace || !publicNames.contains(method.getName()), "rule 1, the name of " + method);
            }
        }
    }

    private static void words(String source) {
        String code = source.replaceAll("(?s)/\\*.*?\\*/", "").replaceAll("//[^\n]*", "")
                .replaceAll("\"[^\"\n]*\"", "\"\"");
        for (String word : UNWANTED) {
            Matcher matcher = Pattern.compile(word).matcher(code);
            check(!matcher.find(), "an unwanted word, " + word);
        }
        Matcher imports = Pattern.compile("import ([^;]*);").matcher(code);
        while (imports.find()) {
            check(imports.group(1).equals("java.util.NoSuchElementException"), "rule 4, " + imports.group());
        }
        check(source.chars().allMatch(sign -> sign == '\n' || sign >= 32 && sign < 127), "plain signs");
    }

    private static void methodLengths(String source) {
        String[] lines = source.split("\n");
        for (int start = 0; start < lines.length; start++) {
            Matcher opening = Pattern.compile("^( {4}| {8})(?=[^ /*]).*\\{$").matcher(lines[start]);
            if (!opening.find() || lines[start].contains(" class ")) {
                continue;
            }
            int end = start;
            while (end < lines.length && !lines[end].equals(opening.group(1) + "}")) {
                end++;
            }
            check(end - start + 1 <= 60, "rule 11, the length of " + lines[start].trim());
        }
    }
}
