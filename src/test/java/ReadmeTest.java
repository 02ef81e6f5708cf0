import java.io.ByteArrayOutputStream;
import java.io.IOException;
import java.io.PrintStream;
import java.net.URL;
import java.net.URLClassLoader;
import java.nio.file.Files;
import java.nio.file.Path;
import java.util.ArrayList;
import java.util.List;
import java.util.regex.Matcher;
import java.util.regex.Pattern;
import java.util.stream.Stream;
import javax.tools.ToolProvider;

/** What README.md says: its example compiles and prints what it says, and the tests it tells of are those that .ci/run runs. */
public final class ReadmeTest {
  private static final Path README = Path.of("README.md");
  private static final Path TESTS = Path.of("src/test/java");
  private static int wrong = 0;

  private static void need(boolean holds, String what) {
    if (!holds) {
      wrong++;
      System.out.println("README: " + what);
    }
  }

  public static void main(String[] args) throws IOException, ReflectiveOperationException {
    String readme = Files.readString(README);
    theExample(readme);
    theTests(readme);
    System.out.println("readme: " + wrong + " wrong");
    if (wrong != 0) System.exit(1);
  }

  private static void theExample(String readme) throws IOException, ReflectiveOperationException {
    Matcher block = Pattern.compile("```java\n(.*?)```", Pattern.DOTALL).matcher(readme);
    need(block.find(), "there is no example");
    if (wrong != 0) return;
    String example = block.group(1);
    List<String> said = new ArrayList<>();
    for (String line : example.lines().toList()) {
      Matcher remark = Pattern.compile("println\\(.*// ([^:]+):").matcher(line);
      need(!line.contains("println") || remark.find(), "no answer is said in: " + line);
      if (line.contains("println")) said.add(remark.group(1));
    }
    need(said.size() > 10, "the example says too little");
    List<String> printed = printedBy(example);
    need(printed.equals(said), "the example prints " + printed + ", and says " + said);
  }

  private static List<String> printedBy(String example) throws IOException, ReflectiveOperationException {
    Path folder = Files.createTempDirectory("readme");
    Path file = folder.resolve("Example.java");
    PrintStream out = System.out;
    try {
      Files.writeString(file, example);
      int compiled = ToolProvider.getSystemJavaCompiler().run(null, null, null, "-d", folder.toString(), "-cp", System.getProperty("java.class.path"), file.toString());
      need(compiled == 0, "the example does not compile");
      if (compiled != 0) return List.of();
      ByteArrayOutputStream bytes = new ByteArrayOutputStream();
      System.setOut(new PrintStream(bytes, true));
      try (URLClassLoader loader = new URLClassLoader(new URL[] {folder.toUri().toURL()})) {
        loader.loadClass("Example").getMethod("main", String[].class).invoke(null, (Object) new String[0]);
      }
      return bytes.toString().lines().toList();
    } finally {
      System.setOut(out);
      try (Stream<Path> files = Files.list(folder)) {
        for (Path made : files.toList()) Files.delete(made);
      }
      Files.delete(folder);
    }
  }

  private static void theTests(String readme) throws IOException {
    need(readme.contains("`.ci/run`") && Files.isExecutable(Path.of(".ci/run")), "the tests are run by .ci/run");
    try (Stream<Path> files = Files.list(TESTS)) {
      for (Path file : files.toList()) {
        String name = file.getFileName().toString();
        if (name.endsWith("Test.java")) need(readme.contains("- `" + name.replace(".java", "") + "`:"), name + " is not told of");
      }
    }
    Matcher told = Pattern.compile("(?m)^- `(\\w+)`:").matcher(readme);
    while (told.find()) need(Files.exists(TESTS.resolve(told.group(1) + ".java")), told.group(1) + " is told of, and is not there");
  }
}
