import java.io.PrintWriter;
import java.net.URL;
import java.net.URLClassLoader;
import java.nio.file.Files;
import java.nio.file.Path;
import java.util.ArrayList;
import java.util.List;
import java.util.regex.Matcher;
import java.util.regex.Pattern;
import java.util.spi.ToolProvider;

/**
 * That the examples of README.md hold: each of its Java blocks is compiled as a method, and a call
 * with a comment must answer what the comment begins with. The first argument is the path of
 * README.md, the second one a directory to compile in.
 */
public final class ReadmeTests {
    /** What is before the call if its answer gets a name, the call, and the answer that is due. */
    private static final Pattern LINE = Pattern.compile(
            "((?:int )\\w+ = )?(maker\\.[^;]*); +// (throws \\w+|true|false|-?[0-9.]*[0-9])(?::.*)?");
    private static final Pattern CALL = Pattern.compile("maker\\.(\\w+)\\(");

    public static void main(String[] args) throws Exception {
        String readme = Files.readString(Path.of(args[0]));
        Path directory = Files.createDirectories(Path.of(args[1]));
        List<String> answers = new ArrayList<>();
        String source = programOf(readme, answers);
        Path file = directory.resolve("ReadmeExamples.java");
        Files.writeString(file, source);
        int exit = ToolProvider.findFirst("javac").orElseThrow().run(new PrintWriter(System.out, true),
                new PrintWriter(System.out, true), "-cp", System.getProperty("java.class.path"),
                "-d", directory.toString(), file.toString());
        if (exit != 0) {
            System.out.println("the examples of README.md do not compile");
            System.exit(1);
        }
        int wrong = wrongAnswers(directory) + untold(source);
        System.out.println("readme: " + answers.size() + " answers, " + wrong + " are not as due");
        if (wrong != 0 || answers.isEmpty()) {
            System.exit(1);
        }
    }

    private static int wrongAnswers(Path directory) throws Exception {
        try (URLClassLoader loader = new URLClassLoader(new URL[] {directory.toUri().toURL()})) {
            return (Integer) loader.loadClass("ReadmeExamples").getMethod("wrong").invoke(null);
        }
    }

    /** How many methods of the class the examples do not show. */
    private static int untold(String source) {
        List<String> shown = new ArrayList<>();
        Matcher call = CALL.matcher(source);
        while (call.find()) {
            shown.add(call.group(1));
        }
        int missing = 0;
        for (var method : DataMaker.class.getMethods()) {
            if (method.getDeclaringClass() == DataMaker.class && !shown.contains(method.getName())) {
                missing++;
                System.out.println("README.md has no example of " + method.getName());
            }
        }
        return missing;
    }

    private static String programOf(String readme, List<String> answers) {
        StringBuilder methods = new StringBuilder();
        StringBuilder calls = new StringBuilder();
        Matcher block = Pattern.compile("(?s)```java\n(.*?)```").matcher(readme);
        for (int number = 0; block.find(); number++) {
            methods.append("static void example").append(number).append("() {\n");
            for (String line : block.group(1).split("\n")) {
                methods.append(checkOf(line.trim(), answers)).append("\n");
            }
            methods.append("}\n");
            calls.append("example").append(number).append("(); ");
        }
        return "public final class ReadmeExamples {\nstatic int wrong = 0;\n"
                + "static void due(String call, Object got, String want) {\n"
                + "if (!want.equals(String.valueOf(got))) { wrong++; System.out.println(\"README.md: \""
                + " + call + \" answered \" + got + \", due is \" + want); } }\n"
                + "public static int wrong() { " + calls + "return wrong; }\n" + methods + "}\n";
    }

    private static String checkOf(String line, List<String> answers) {
        Matcher parts = LINE.matcher(line);
        if (!parts.matches()) {
            if (line.contains("//")) {
                throw new AssertionError("a comment in README.md that tells no answer: " + line);
            }
            return line;
        }
        String call = parts.group(2);
        String want = parts.group(3);
        answers.add(want);
        String due = "due(\"" + call + "\", %s, \"" + want + "\");";
        if (want.startsWith("throws ")) {
            return "try { " + String.format(due, call) + " } catch (RuntimeException e) { "
                    + String.format(due, "\"throws \" + e.getClass().getSimpleName()") + " }";
        }
        if (parts.group(1) == null) {
            return String.format(due, call);
        }
        String name = parts.group(1).replaceAll("int | = ", "");
        return parts.group(1) + call + "; " + String.format(due, name);
    }
}
