import java.lang.reflect.Constructor;
import java.lang.reflect.Executable;
import java.lang.reflect.Field;
import java.lang.reflect.Method;
import java.lang.reflect.Modifier;
import java.nio.file.Files;
import java.nio.file.Path;
import java.util.ArrayList;
import java.util.Arrays;
import java.util.List;
import java.util.TreeSet;
import java.util.regex.Matcher;
import java.util.regex.Pattern;
import java.util.stream.Collectors;

/**
 * What can be seen from outside of the rules of LANGUAGE.md: the face, which must be the one of the
 * document with the exceptions that it names, the sizes of classes and methods, and words that are
 * not to be used. The arguments are the paths of DataMaker.java and of DOC.md.
 */
public final class RulesTests {
    private static final String EXCEPTIONS = "(IllegalState|IllegalArgument|IndexOutOfBounds|Arithmetic"
            + "|UnsupportedOperation|NoSuchElement|Runtime)Exception";

    private static final String[] UNWANTED = {
        "->", "::", "\\btry\\b", "\\bcatch\\b", "\\bfinally\\b", "\\bsynchronized\\b", "\\bassert\\b",
        "\\bSystem\\.(?!arraycopy)", "\\bRandom\\b", "\\bThread\\b", "Exact\\(", "\\bprotected\\b",
        "\\bpackage\\b", "\\.equals\\(", "\\.hashCode\\(", "\\.toString\\(", "\\bMath\\.\\w+\\([^)]*(\\d\\.|double)"};

    private static int wrong = 0;

    public static void main(String[] args) throws Exception {
        String source = Files.readString(Path.of(args[0]));
        face(Files.readString(Path.of(args[1])));
        insideClasses();
        words(source);
        methodLengths(source);
        System.out.println("rules: " + wrong + " are broken");
        if (wrong != 0) {
            System.exit(1);
        }
    }

    private static void check(boolean good, String what) {
        if (!good) {
            wrong++;
            System.out.println("broken: " + what);
        }
    }

    /** The members in the document's face, without the names of parameters and packages. */
    private static TreeSet<String> documentFace(String document) {
        TreeSet<String> members = new TreeSet<>();
        Matcher block = Pattern.compile("(?s)## The public face\\s+```java\n(.*?)```").matcher(document);
        if (block.find()) {
            Matcher member = Pattern.compile("(?m)^    public (.*);$").matcher(block.group(1));
            while (member.find()) {
                members.add(member.group(1).replace("java.util.", "").replaceAll("(int|long) \\w+(?=[,)])", "$1"));
            }
        }
        return members;
    }

    private static String names(Class<?>[] types) {
        return Arrays.stream(types).map(Class::getSimpleName).collect(Collectors.joining(", "));
    }

    private static String described(String name, Executable member) {
        String exceptions = names(member.getExceptionTypes());
        return name + "(" + names(member.getParameterTypes()) + ")"
                + (exceptions.isEmpty() ? "" : " throws " + exceptions);
    }

    private static void face(String document) {
        int type = DataMaker.class.getModifiers();
        check(Modifier.isPublic(type) && Modifier.isFinal(type), "DataMaker is public and final");
        TreeSet<String> found = new TreeSet<>();
        for (Method method : DataMaker.class.getDeclaredMethods()) {
            if (Modifier.isPublic(method.getModifiers())) {
                check(!Modifier.isStatic(method.getModifiers()), "rule 1, static is " + method);
                found.add(method.getReturnType() + " " + described(method.getName(), method));
            } else {
                check(Modifier.isPrivate(method.getModifiers()), "rule 1, the method " + method);
            }
        }
        Constructor<?>[] constructors = DataMaker.class.getDeclaredConstructors();
        check(constructors.length == 1 && constructors[0].getParameterCount() == 0
                && Modifier.isPublic(constructors[0].getModifiers()), "rule 1, the constructor");
        for (Constructor<?> constructor : constructors) {
            found.add(described("DataMaker", constructor));
        }
        TreeSet<String> due = documentFace(document);
        check(!due.isEmpty() && found.equals(due), "the face is " + found + ", due is " + due);
        for (Field field : DataMaker.class.getDeclaredFields()) {
            check(Modifier.isPrivate(field.getModifiers()), "rule 1, the field " + field);
        }
    }

    private static void insideClasses() {
        List<Class<?>> all = new ArrayList<>(List.of(DataMaker.class.getDeclaredClasses()));
        check(all.size() + 1 <= 12, "rule 11, classes: " + all.size());
        TreeSet<String> publicNames = new TreeSet<>();
        for (Method method : DataMaker.class.getDeclaredMethods()) {
            if (Modifier.isPublic(method.getModifiers())) {
                publicNames.add(method.getName());
            }
        }
        all.add(DataMaker.class);
        for (Class<?> one : all) {
            if (one != DataMaker.class) {
                check(Modifier.isStatic(one.getModifiers()) && !Modifier.isPublic(one.getModifiers()),
                        "rule 1, the class " + one);
            }
            int fields = 0;
            for (Field field : one.getDeclaredFields()) {
                boolean isStatic = Modifier.isStatic(field.getModifiers());
                fields += isStatic ? 0 : 1;
                check(!isStatic || Modifier.isFinal(field.getModifiers()), "rule 5, the field " + field);
            }
            check(fields <= 20, "rule 11, fields of " + one);
            for (Method method : one.getDeclaredMethods()) {
                check(method.getParameterCount() <= 7, "rule 11, parameters of " + method);
                boolean isFace = one == DataMaker.class && Modifier.isPublic(method.getModifiers());
                check(isFace || !publicNames.contains(method.getName()), "rule 1, the name of " + method);
            }
        }
    }

    private static void words(String source) {
        String code = source.replaceAll("(?s)/\\*.*?\\*/", "").replaceAll("//[^\n]*", "")
                .replaceAll("\"[^\"\n]*\"", "\"\"");
        for (String word : UNWANTED) {
            Matcher matcher = Pattern.compile(word).matcher(code);
            check(!matcher.find(), "an unwanted word, " + word);
        }
        Matcher thrown = Pattern.compile("\\bthrow\\b.*").matcher(code);
        while (thrown.find()) {
            check(thrown.group().matches("throw new " + EXCEPTIONS + "\\((\"\")?\\);"), "rule 6, " + thrown.group());
        }
        Matcher library = Pattern.compile("\\b(Math|Integer|Long|Arrays|System|String|Double)\\.\\w+").matcher(code);
        while (library.find()) {
            check(library.group().equals("Math.abs"), "rule 4, is this allowed: " + library.group());
        }
        Matcher imports = Pattern.compile("import ([^;]*);").matcher(code);
        while (imports.find()) {
            check(imports.group(1).equals("java.util.NoSuchElementException"), "rule 4, " + imports.group());
        }
        check(source.chars().allMatch(sign -> sign == '\n' || sign >= 32 && sign < 127), "plain signs");
    }

    private static void methodLengths(String source) {
        String[] lines = source.split("\n");
        for (int start = 0; start < lines.length; start++) {
            Matcher opening = Pattern.compile("^( {4}| {8})(?=[^ /*]).*\\{$").matcher(lines[start]);
            if (!opening.find() || lines[start].contains(" class ")) {
                continue;
            }
            int end = start;
            while (end < lines.length && !lines[end].equals(opening.group(1) + "}")) {
                end++;
            }
            check(end - start + 1 <= 60, "rule 11, the length of " + lines[start].trim());
        }
    }
}
