import java.io.IOException;
import java.net.URL;
import java.net.URLClassLoader;
import java.nio.file.Files;
import java.nio.file.Path;
import java.util.ArrayList;
import java.util.Comparator;
import java.util.List;
import java.util.function.BiConsumer;
import java.util.regex.Matcher;
import java.util.regex.Pattern;
import java.util.stream.Stream;
import javax.tools.ToolProvider;

/**
 * The examples of README.md answer as it says: its java blocks, one behind the other, are built into a class and run.
 * Behind each of their calls stands "// answer: why"; for a refused one "// throws Exception: why".
 */
public final class ReadmeTest {
  private static final Pattern MADE = Pattern.compile("KnotArchive (\\w+) = new KnotArchive\\(\\);");
  private static final Pattern CALL =
      Pattern.compile("(?:(\\w+ (\\w+)) = )?([^;]+); *// (-?[0-9.]+|throws \\w+)(?::.*)?");

  private final Checks checks = new Checks("ReadmeTest");
  private int calls = 0;

  public static void main(String[] args) throws ReflectiveOperationException, IOException {
    ReadmeTest test = new ReadmeTest();
    List<String> readme = Files.readAllLines(Path.of("README.md"));
    List<String> lines = examples(readme);
    String body = test.built(lines);
    test.run(body);
    test.eachMethodIsShown(lines);
    test.eachTestIsNamed(readme);
    test.checks.end();
  }

  private static List<String> examples(List<String> readme) {
    List<String> lines = new ArrayList<>();
    boolean inside = false;
    for (String line : readme) {
      if (line.startsWith("```")) {
        inside = line.equals("```java");
      } else if (inside && !line.isBlank()) {
        lines.add(line);
      }
    }
    return lines;
  }

  private String built(List<String> lines) {
    StringBuilder body = new StringBuilder();
    for (String line : lines) {
      Matcher call = CALL.matcher(line);
      if (call.matches()) {
        calls++;
        body.append(checked(line, call));
      } else {
        checks.holds("README.md: no answer stands behind: " + line, MADE.matcher(line).matches());
        body.append(line).append('\n');
      }
    }
    return body.toString();
  }

  private static String checked(String line, Matcher call) {
    String due = "due.accept(\"" + line.replace("\\", "\\\\").replace("\"", "\\\"") + "\", ";
    String answer = call.group(4);
    if (answer.startsWith("throws ")) {
      return "try { " + call.group(3) + "; " + due + "\"an answer\"); } catch (RuntimeException e) { "
          + due + "\"throws \" + e.getClass().getSimpleName()); }\n";
    }
    if (call.group(1) != null) {
      return call.group(1) + " = " + call.group(3) + "; " + due + "String.valueOf(" + call.group(2) + "));\n";
    }
    return due + "String.valueOf(" + call.group(3) + "));\n";
  }

  private void run(String body) throws ReflectiveOperationException, IOException {
    Path folder = Files.createTempDirectory(Path.of("build"), "readme");
    try {
      Path source = folder.resolve("ReadmeExamples.java");
      Files.writeString(source, "public final class ReadmeExamples implements"
          + " java.util.function.Consumer<java.util.function.BiConsumer<String, String>> {\n"
          + "public void accept(java.util.function.BiConsumer<String, String> due) {\n" + body + "}\n}\n");
      int failed = ToolProvider.getSystemJavaCompiler().run(null, null, null, "-d", folder.toString(), "-cp",
          System.getProperty("java.class.path"), source.toString());
      checks.due("README.md: javac", failed, 0);
      if (failed == 0) {
        runBuilt(folder);
      }
    } finally {
      delete(folder);
    }
  }

  private void runBuilt(Path folder) throws ReflectiveOperationException, IOException {
    int[] seen = new int[1];
    BiConsumer<String, String> due = (line, got) -> {
      seen[0]++;
      Matcher call = CALL.matcher(line);
      checks.holds("README.md: " + line + " .. answered " + got, call.matches() && call.group(4).equals(got));
    };
    try (URLClassLoader loader = new URLClassLoader(new URL[] {folder.toUri().toURL()})) {
      Object examples = loader.loadClass("ReadmeExamples").getConstructor().newInstance();
      examples.getClass().getMethod("accept", BiConsumer.class).invoke(examples, due);
    }
    checks.due("README.md: calls run", seen[0], calls);
  }

  private static void delete(Path folder) throws IOException {
    try (Stream<Path> paths = Files.walk(folder)) {
      for (Path path : paths.sorted(Comparator.reverseOrder()).toList()) {
        Files.delete(path);
      }
    }
  }

  private void eachMethodIsShown(List<String> lines) {
    String all = String.join("\n", lines);
    for (java.lang.reflect.Method method : KnotArchive.class.getDeclaredMethods()) {
      if (java.lang.reflect.Modifier.isPublic(method.getModifiers())) {
        checks.holds("README.md shows " + method.getName(), all.contains("." + method.getName() + "("));
      }
    }
  }

  private void eachTestIsNamed(List<String> readme) throws IOException {
    String all = String.join("\n", readme);
    try (Stream<Path> tests = Files.list(Path.of("src/test/java"))) {
      for (Path path : tests.toList()) {
        String name = path.getFileName().toString().replace(".java", "");
        checks.holds("README.md names " + name, all.contains("`" + name + "`"));
      }
    }
  }
}
