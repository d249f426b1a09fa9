import java.io.File;
import java.io.IOException;
import java.lang.reflect.Method;
import java.lang.reflect.Modifier;
import java.net.URL;
import java.net.URLClassLoader;
import java.nio.file.Files;
import java.nio.file.Path;
import java.util.ArrayList;
import java.util.Comparator;
import java.util.LinkedHashMap;
import java.util.List;
import java.util.Map;
import java.util.regex.Matcher;
import java.util.regex.Pattern;
import java.util.stream.Stream;
import javax.tools.ToolProvider;

/** README.md: the calls it shows have the answers it shows, and its commands run as they are written. */
public final class ReadmeTest {
    private static final Pattern BLOCK = Pattern.compile("(?ms)^```(\\w+)\n(.*?)^```$");
    private static final Pattern CALL = Pattern.compile("(statue\\.(\\w+)\\(.*\\)); *// (-?\\d+)(?::.*)?");

    public static void main(String[] args) throws Exception {
        String page = Files.readString(Path.of("README.md"));
        Path folder = Files.createTempDirectory("readme");
        try {
            use(page, folder);
            commands(page, folder);
        } finally {
            remove(folder);
        }
        everyMethod(page);
        Check.finish();
    }

    private static List<String> blocks(String page, String language) {
        List<String> all = new ArrayList<>();
        Matcher m = BLOCK.matcher(page);
        while (m.find()) {
            if (m.group(1).equals(language)) {
                all.add(m.group(2));
            }
        }
        return all;
    }

    /** All that is shown as Java becomes one program, in which each call is held against the answer behind it. */
    private static void use(String page, Path folder) throws Exception {
        StringBuilder methods = new StringBuilder();
        StringBuilder body = new StringBuilder();
        int shown = 0;
        for (String block : blocks(page, "java")) {
            if (block.startsWith("static ")) {
                methods.append("private ").append(block);
                continue;
            }
            for (String line : block.split("\n")) {
                Matcher m = CALL.matcher(line);
                boolean isCall = m.matches();
                Check.so("an answer behind " + line, isCall || !line.startsWith("statue."));
                shown += isCall ? 1 : 0;
                body.append(isCall ? "due.put(\"" + m.group(1) + " as call " + shown + "\", new long[] {" + m.group(1) + ", "
                        + m.group(3) + "L});" : line).append('\n');
            }
        }
        String program = "public final class ReadmeUse {\n" + methods
                + "public static void run(java.util.Map<String, long[]> due) {\n" + body + "}\n}\n";
        Path source = Files.writeString(folder.resolve("ReadmeUse.java"), program);
        int compiled = ToolProvider.getSystemJavaCompiler().run(null, null, null, "-cp",
                System.getProperty("java.class.path"), "-d", folder.toString(), source.toString());
        Check.due("what README.md shows as Java compiles", compiled, 0);
        if (compiled == 0) {
            Map<String, long[]> due = new LinkedHashMap<>();
            try (URLClassLoader loader = new URLClassLoader(new URL[] {folder.toUri().toURL()})) {
                loader.loadClass("ReadmeUse").getMethod("run", Map.class).invoke(null, due);
            }
            due.forEach((call, both) -> Check.due("README.md: " + call, both[0], both[1]));
            Check.due("calls that were asked", due.size(), shown);
            Check.so("many calls are shown", shown > 50);
        }
    }

    private static void everyMethod(String page) {
        String java = String.join("\n", blocks(page, "java"));
        for (Method m : StatueRelief.class.getDeclaredMethods()) {
            if (Modifier.isPublic(m.getModifiers())) {
                Check.so(m.getName() + " is shown", java.contains("statue." + m.getName() + "("));
            }
        }
    }

    private static void commands(String page, Path folder) throws IOException, InterruptedException {
        List<String> all = blocks(page, "sh");
        Check.so("commands are shown", all.size() > 1);
        for (String command : all) {
            if (command.strip().equals(".ci/run")) {
                // It is what runs this test: that it is there and can be run is all that can be asked here.
                Check.so(".ci/run can be run", new File(".ci/run").canExecute());
                continue;
            }
            Path out = folder.resolve("said.txt");
            ProcessBuilder builder = new ProcessBuilder("bash", "-e", "-c", command).redirectErrorStream(true)
                    .redirectOutput(out.toFile());
            // What the commands make by mktemp goes where it is removed with the rest.
            builder.environment().put("TMPDIR", folder.toString());
            int code = builder.start().waitFor();
            String said = Files.readString(out);
            Check.due("README.md: " + command + said, code, 0);
            Check.so("a test was run by " + command, said.contains("answers, 0 not as due"));
        }
    }

    private static void remove(Path folder) throws IOException {
        try (Stream<Path> all = Files.walk(folder)) {
            for (Path path : all.sorted(Comparator.reverseOrder()).toArray(Path[]::new)) {
                Files.delete(path);
            }
        }
    }
}
