import java.net.URL;
import java.net.URLClassLoader;
import java.nio.file.Files;
import java.nio.file.Path;
import java.util.ArrayList;
import java.util.List;
import java.util.regex.Matcher;
import java.util.regex.Pattern;
import javax.tools.ToolProvider;

/** Makes the calls of README.md as they stand there, with the answers told behind them. Run in the project's folder. */
public final class ReadmeTest {
    private static final Pattern CALL = Pattern.compile("(x\\..*);\\s+// (-?\\d+)(:.*)?");

    public static void main(String[] args) throws Exception {
        List<String> lines = javaLines(Files.readAllLines(Path.of("README.md")));
        List<String> calls = new ArrayList<>();
        List<Long> dues = new ArrayList<>();
        StringBuilder body = new StringBuilder();
        for (String line : lines) {
            Matcher call = CALL.matcher(line);
            if (call.matches()) {
                body.append("answers[").append(calls.size()).append("] = ").append(call.group(1)).append(";\n");
                calls.add(call.group(1));
                dues.add(Long.parseLong(call.group(2)));
            } else {
                Check.so("a call without its answer: " + line, !line.contains("//"));
                body.append(line).append('\n');
            }
        }
        long[] answers = answers(body.toString(), calls.size());
        for (int k = 0; k < answers.length; k++) {
            Check.due("README.md: " + calls.get(k), answers[k], dues.get(k));
        }
        Check.end("ReadmeTest");
    }

    private static List<String> javaLines(List<String> all) {
        List<String> lines = new ArrayList<>();
        boolean inside = false;
        for (String line : all) {
            if (line.startsWith("```")) {
                inside = line.equals("```java");
            } else if (inside) {
                lines.add(line);
            }
        }
        return lines;
    }

    /** Compiles the lines as a program of their own, as one who reads them would. */
    private static long[] answers(String body, int many) throws Exception {
        Path dir = Files.createTempDirectory("readme");
        Path file = dir.resolve("Readme.java");
        Files.writeString(file, "public final class Readme { public static long[] answers() {\nlong[] answers = new long["
            + many + "];\n" + body + "return answers;\n} }\n");
        int code = ToolProvider.getSystemJavaCompiler().run(null, null, null,
            "-cp", System.getProperty("java.class.path"), "-d", dir.toString(), file.toString());
        Check.due("README.md's lines are compiled", code, 0);
        long[] answers = new long[0];
        if (code == 0) {
            try (URLClassLoader loader = new URLClassLoader(new URL[] {dir.toUri().toURL()})) {
                answers = (long[]) loader.loadClass("Readme").getMethod("answers").invoke(null);
            }
        }
        remove(dir);
        return answers;
    }

    private static void remove(Path dir) {
        java.io.File[] files = dir.toFile().listFiles();
        for (java.io.File file : files) {
            file.delete();
        }
        dir.toFile().delete();
    }
}
