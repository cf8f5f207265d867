import java.lang.reflect.Method;
import java.lang.reflect.Modifier;
import java.net.URL;
import java.net.URLClassLoader;
import java.nio.file.Files;
import java.nio.file.Path;
import java.util.ArrayList;
import java.util.Comparator;
import java.util.List;
import java.util.regex.Matcher;
import java.util.regex.Pattern;
import java.util.stream.Stream;
import javax.tools.JavaCompiler;
import javax.tools.ToolProvider;

/**
 * Runs the example of README.md, so that what it tells its reader stays true: each line is
 * "statement; // answer" with a remark behind the answer, but for the one that makes the object.
 */
public class CoverJoinReadme {
    private static final String START = "```java";
    private static final String END = "```";
    private static final String MAKING = "CoverJoin x = new CoverJoin();";
    private static final Pattern TOLD = Pattern.compile(
            "(?:int (\\w+) = )?(x\\.\\w+\\(.*?\\)); +// (-?\\d+|true|false)(?:: .*)?");

    private static int wrong = 0;

    public static void main(String[] args) throws Exception {
        List<String> example = exampleOf(Files.readAllLines(Path.of("README.md")));
        lookForEveryMethod(example);
        String program = programOf(example);
        if (wrong == 0) {
            runProgram(program);
        }
        if (wrong == 0) {
            System.out.println("README.md tells what the class answers");
        }
        System.exit(wrong == 0 ? 0 : 1);
    }

    /** Called by the program that is made of the example. */
    public static void check(String call, Object due, Object answer) {
        if (!due.equals(answer)) {
            complain(call + " answers " + answer + ", README.md tells " + due);
        }
    }

    private static void complain(String text) {
        System.out.println(text);
        wrong++;
    }

    private static List<String> exampleOf(List<String> readme) {
        List<String> example = new ArrayList<>();
        int start = readme.indexOf(START);
        for (int i = start + 1; start >= 0 && i < readme.size() && !readme.get(i).equals(END); i++) {
            if (!readme.get(i).isBlank()) {
                example.add(readme.get(i));
            }
        }
        return example;
    }

    private static void lookForEveryMethod(List<String> example) {
        for (Method method : CoverJoin.class.getDeclaredMethods()) {
            String call = "x." + method.getName() + "(";
            if (Modifier.isPublic(method.getModifiers())
                    && example.stream().noneMatch(line -> line.contains(call))) {
                complain("README.md has no example of " + method.getName());
            }
        }
    }

    private static String programOf(List<String> example) {
        StringBuilder program = new StringBuilder("public class ReadmeExample {\n");
        program.append("public static void run() {\n");
        for (String line : example) {
            Matcher told = TOLD.matcher(line);
            if (line.equals(MAKING)) {
                program.append(line).append('\n');
            } else if (told.matches()) {
                program.append(checkOf(told.group(1), told.group(2), told.group(3)));
            } else {
                complain("README.md tells no answer in: " + line);
            }
        }
        return program.append("}\n}\n").toString();
    }

    private static String checkOf(String name, String call, String due) {
        String declared = name == null ? "" : "int " + name + " = " + call + ";\n";
        return declared + "CoverJoinReadme.check(\"" + call + "\", " + due + ", "
                + (name == null ? call : name) + ");\n";
    }

    private static void runProgram(String program) throws Exception {
        Path folder = Files.createTempDirectory("readme");
        try {
            Path source = folder.resolve("ReadmeExample.java");
            Files.writeString(source, program);
            JavaCompiler compiler = ToolProvider.getSystemJavaCompiler();
            int failed = compiler.run(null, null, null, "-cp", System.getProperty("java.class.path"),
                    "-d", folder.toString(), source.toString());
            if (failed != 0) {
                complain("the example of README.md does not compile");
                return;
            }
            URL[] places = {folder.toUri().toURL()};
            try (URLClassLoader loader = new URLClassLoader(places)) {
                loader.loadClass("ReadmeExample").getMethod("run").invoke(null);
            }
        } finally {
            removeAll(folder);
        }
    }

    private static void removeAll(Path folder) throws Exception {
        try (Stream<Path> inside = Files.walk(folder)) {
            for (Path path : inside.sorted(Comparator.reverseOrder()).toList()) {
                Files.delete(path);
            }
        }
    }
}
