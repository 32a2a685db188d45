import java.io.IOException;
import java.net.URL;
import java.net.URLClassLoader;
import java.nio.file.Files;
import java.nio.file.Path;
import java.util.ArrayList;
import java.util.List;
import java.util.regex.Matcher;
import java.util.regex.Pattern;
import javax.tools.ToolProvider;

/** The program in README.md, compiled and run; what its lines say that a call answers stands beside what it answers. */
final class ReadmeProgram {
    private static final Pattern ANSWERS = Pattern.compile("(?:int (\\w+) = )?(.*);\\s*// answers ([^:]+)(?::.*)?");

    private ReadmeProgram() {
    }

    /** Answers a row for each line with an answer: the line, what was answered, and what the line says. */
    @SuppressWarnings("unchecked")
    static List<String[]> run(List<String> lines) throws Exception {
        Path folder = Files.createTempDirectory("readme");
        try {
            Path source = folder.resolve("Readme.java");
            Files.writeString(source, sourceOf(lines));
            int code = ToolProvider.getSystemJavaCompiler().run(null, null, null, "-cp", System.getProperty("java.class.path"),
                    "-d", folder.toString(), source.toString());
            if (code != 0) {
                return new ArrayList<>();
            }
            try (URLClassLoader loader = new URLClassLoader(new URL[] {folder.toUri().toURL()})) {
                return (List<String[]>) loader.loadClass("Readme").getMethod("run").invoke(null);
            }
        } finally {
            clear(folder);
        }
    }

    private static String sourceOf(List<String> lines) {
        StringBuilder text = new StringBuilder("public final class Readme {\n");
        text.append("    public static java.util.List<String[]> run() {\n");
        text.append("        java.util.List<String[]> rows = new java.util.ArrayList<>();\n");
        for (String line : lines) {
            Matcher matcher = ANSWERS.matcher(line);
            if (!matcher.matches()) {
                text.append(line).append('\n');
                continue;
            }
            String answer = matcher.group(2);
            if (matcher.group(1) != null) {
                text.append(line).append('\n');
                answer = matcher.group(1);
            }
            text.append("rows.add(new String[] {\"").append(matcher.group(2).trim()).append("\", String.valueOf(").append(answer)
                    .append("), String.valueOf(").append(matcher.group(3)).append(")});\n");
        }
        return text.append("        return rows;\n    }\n}\n").toString();
    }

    private static void clear(Path folder) throws IOException {
        Files.deleteIfExists(folder.resolve("Readme.java"));
        Files.deleteIfExists(folder.resolve("Readme.class"));
        Files.delete(folder);
    }
}
