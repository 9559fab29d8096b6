import java.io.IOException;
import java.lang.reflect.Method;
import java.lang.reflect.Modifier;
import java.net.URL;
import java.net.URLClassLoader;
import java.nio.file.Files;
import java.nio.file.Path;
import java.util.ArrayList;
import java.util.List;
import java.util.regex.Matcher;
import java.util.regex.Pattern;
import java.util.stream.Stream;
import javax.tools.ToolProvider;

/** README.md's lines of Java, compiled and run as they stand: each answers as is written beside it. */
public final class ReadmeTest {
    private static final Due DUE = new Due();
    private static final Pattern CALL = Pattern.compile("\\s*(x\\.\\w+\\(.*\\));\\s+// ([^:]+): .+");
    private static final String THROWS = "ArithmeticException";

    public static void main(String[] args) throws Exception {
        List<String> shown = javaLines(Files.readAllLines(Path.of("README.md")));
        Path out = Files.createTempDirectory("readme");
        try {
            compare(answers(program(shown), out));
        } finally {
            remove(out);
        }
        allOfTheFaceIsShown(shown);
        DUE.end();
    }

    private static List<String> javaLines(List<String> readme) {
        List<String> lines = new ArrayList<>();
        boolean inside = false;
        for (String line : readme) {
            if (line.startsWith("```")) {
                inside = line.equals("```java");
            } else if (inside) {
                lines.add(line);
            }
        }
        return lines;
    }

    /** A class whose one method puts each call, its answer and what is written beside it in a list. */
    private static String program(List<String> lines) {
        StringBuilder text = new StringBuilder("public final class Shown {\n"
            + "static final int NONE = FrameSamples.NONE;\n"
            + "public static void all(java.util.List<Object[]> answers) {\n");
        for (String line : lines) {
            Matcher call = CALL.matcher(line);
            if (call.matches()) {
                text.append(compared(call.group(1), call.group(2)));
            } else {
                DUE.is("an answer stands beside: " + line, line.stripLeading().startsWith("x."), false);
                text.append(line).append('\n');
            }
        }
        return text.append("}\n}\n").toString();
    }

    private static String compared(String call, String want) {
        String name = "\"" + call + "\"";
        if (!want.equals(THROWS)) {
            return "answers.add(new Object[] {" + name + ", " + call + ", " + want + "});\n";
        }
        String thrown = "\"" + THROWS + "\"";
        return "try { answers.add(new Object[] {" + name + ", " + call + ", " + thrown + "}); }"
            + " catch (ArithmeticException e) {"
            + " answers.add(new Object[] {" + name + ", " + thrown + ", " + thrown + "}); }\n";
    }

    private static List<Object[]> answers(String program, Path out) throws Exception {
        Path source = Files.writeString(out.resolve("Shown.java"), program);
        int failed = ToolProvider.getSystemJavaCompiler().run(null, null, null, "-cp",
            System.getProperty("java.class.path"), "-d", out.toString(), source.toString());
        DUE.is("it can be compiled", failed, 0);
        List<Object[]> answers = new ArrayList<>();
        try (URLClassLoader loader = new URLClassLoader(new URL[] {out.toUri().toURL()})) {
            loader.loadClass("Shown").getMethod("all", List.class).invoke(null, answers);
        }
        return answers;
    }

    private static void compare(List<Object[]> answers) {
        for (Object[] answer : answers) {
            String got = plain(answer[1]);
            String want = plain(answer[2]);
            DUE.is(answer[0] + " answers " + got + ", README.md says " + want, got.equals(want), true);
        }
    }

    private static String plain(Object answer) {
        return answer instanceof Number ? Long.toString(((Number) answer).longValue()) : answer.toString();
    }

    private static void allOfTheFaceIsShown(List<String> lines) {
        String all = String.join("\n", lines);
        for (Method method : FrameSamples.class.getDeclaredMethods()) {
            if (Modifier.isPublic(method.getModifiers())) {
                DUE.is(method.getName() + " is shown", all.contains("x." + method.getName() + "("), true);
            }
        }
    }

    private static void remove(Path directory) throws IOException {
        try (Stream<Path> files = Files.list(directory)) {
            for (Path file : files.toList()) {
                Files.delete(file);
            }
        }
        Files.delete(directory);
    }
}
