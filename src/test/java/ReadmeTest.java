import java.io.File;
import java.io.IOException;
import java.lang.reflect.Method;
import java.net.URL;
import java.net.URLClassLoader;
import java.nio.file.Files;
import java.nio.file.Path;
import java.util.ArrayList;
import java.util.List;
import java.util.regex.Matcher;
import java.util.regex.Pattern;
import java.util.stream.Stream;
import javax.tools.ToolProvider;

/** The lines of Java in README.md, compiled and run as they stand there, answer what is told behind them. */
final class ReadmeTest {
    private static final Pattern BLOCK = Pattern.compile("(?ms)^```java\n(.*?)^```$");
    private static final Pattern LINE = Pattern.compile("(?:(int|long|boolean) (\\w+) = )?(.+); *// (.*)");
    private static final Pattern TOLD = Pattern.compile("(-?\\d+|true|false|throws \\w+): .*");
    /** What has no answer to tell. */
    private static final Pattern SILENT = Pattern.compile("CallSums lifts = new .*|lifts\\.(free|zone|done)\\(.*");
    private static final String MADE = "ReadmeLines";

    private final Checks checks = new Checks();
    private final List<String> lines = new ArrayList<>();
    private final List<String> told = new ArrayList<>();
    private final StringBuilder body = new StringBuilder();

    public static void main(String[] args) throws Exception {
        new ReadmeTest().run(Files.readString(Path.of("README.md")));
    }

    private void run(String readme) throws Exception {
        Matcher block = BLOCK.matcher(readme);
        while (block.find()) {
            for (String line : block.group(1).split("\n")) {
                read(line);
            }
        }
        everyCallIsShown();
        List<?> answers = answers();
        checks.due("lines that answer", answers.size(), told.size());
        for (int i = 0; i < answers.size() && i < told.size(); i++) {
            checks.due(lines.get(i) + " (answer: " + answers.get(i) + ")", answers.get(i).equals(told.get(i)), true);
        }
        checks.end("ReadmeTest");
    }

    private void read(String line) {
        Matcher parts = LINE.matcher(line);
        boolean isRead = parts.matches();
        checks.due("a statement and a remark: " + line, isRead, true);
        if (!isRead) {
            return;
        }
        String type = parts.group(1);
        String statement = parts.group(3);
        Matcher answer = TOLD.matcher(parts.group(4));
        boolean isSilent = SILENT.matcher(statement).matches();
        boolean tells = answer.matches();
        checks.due("an answer is told: " + line, tells || isSilent, true);
        if (tells) {
            lines.add(line);
            told.add(answer.group(1));
            ask(type, parts.group(2), statement, isSilent);
        } else {
            body.append(statement).append(";\n");
        }
    }

    private void ask(String type, String name, String statement, boolean isSilent) {
        if (type != null) {
            body.append(type + " " + name + " = " + statement + "; answers.add(String.valueOf(" + name + "));\n");
            return;
        }
        String answered = isSilent ? statement + "; answers.add(\"nothing\");" : "answers.add(String.valueOf(" + statement + "));";
        body.append("try { " + answered + " } catch (RuntimeException e) {"
                + " answers.add(\"throws \" + e.getClass().getSimpleName()); }\n");
    }

    private void everyCallIsShown() {
        for (Method method : CallSums.class.getMethods()) {
            if (method.getDeclaringClass() == CallSums.class) {
                checks.due(method.getName() + " is shown", body.indexOf("lifts." + method.getName() + "(") >= 0, true);
            }
        }
    }

    private List<?> answers() throws Exception {
        Path folder = Files.createTempDirectory("readme");
        try {
            Path source = folder.resolve(MADE + ".java");
            Files.writeString(source, "public final class " + MADE + " { public static java.util.List<String> answers() {\n"
                    + "java.util.List<String> answers = new java.util.ArrayList<>();\n" + body + "return answers; } }\n");
            String path = System.getProperty("java.class.path");
            int failed = ToolProvider.getSystemJavaCompiler().run(null, null, null,
                    "-cp", path, "-d", folder.toString(), source.toString());
            checks.due("the lines compile, exit code", failed, 0);
            if (failed != 0) {
                return List.of();
            }
            try (URLClassLoader loader = new URLClassLoader(new URL[] {folder.toUri().toURL()})) {
                return (List<?>) loader.loadClass(MADE).getMethod("answers").invoke(null);
            }
        } finally {
            remove(folder);
        }
    }

    private static void remove(Path folder) throws IOException {
        try (Stream<Path> files = Files.list(folder)) {
            files.map(Path::toFile).forEach(File::delete);
        }
        Files.delete(folder);
    }
}
