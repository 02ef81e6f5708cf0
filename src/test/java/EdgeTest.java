import java.io.IOException;
import java.lang.reflect.InvocationTargetException;
import java.lang.reflect.Method;
import java.nio.file.Files;
import java.nio.file.Path;
import java.util.Arrays;
import java.util.Comparator;
import java.util.TreeSet;

/**
 * Runs the tests of edges: each holds the class to the words that it says. Fails if one fails, if its words do not
 * stand in ../shared/DOC.md, or if a promise has none; run from the project's folder.
 */
public final class EdgeTest {
  private static final Path DOCUMENT = Path.of("../shared/DOC.md");
  private static final int PROMISES = 47;
  private static final Class<?>[] EDGES = {TapeEdges.class, StoreEdges.class, LawEdges.class, SlotEdges.class, ReadWriteEdges.class, DangerEdges.class,
      TidyEdges.class, HistoryEdges.class, TickEdges.class, ClientEdges.class, GuessEdges.class, MemoryEdges.class, Refusals.class};

  public static void main(String[] args) throws IOException, IllegalAccessException {
    if (wrongAnswers() != 0) System.exit(1);
  }

  static int wrongAnswers() throws IOException, IllegalAccessException {
    String document = plain(Files.readString(DOCUMENT));
    TreeSet<Integer> promises = new TreeSet<>();
    int tests = 0;
    for (Class<?> edges : EDGES) {
      Method[] methods = edges.getDeclaredMethods();
      Arrays.sort(methods, Comparator.comparing(Method::getName));
      for (Method method : methods) {
        Says says = method.getAnnotation(Says.class);
        if (says == null) continue;
        tests++;
        promises.add(says.promise());
        run(method, says, document);
      }
    }
    for (int promise = 1; promise <= PROMISES; promise++) {
      Bench.test = "promise " + promise;
      Bench.due(promises.contains(promise), true, "has a test of its edges");
    }
    System.out.println("edges: " + tests + " tests, " + Bench.done + " answers, " + Bench.wrong + " wrong");
    return Bench.wrong;
  }

  private static String plain(String text) { return text.replaceAll("\\s+", " "); }

  private static void run(Method method, Says says, String document) throws IllegalAccessException {
    Bench.test = method.getDeclaringClass().getSimpleName() + "." + method.getName();
    for (String words : says.value()) Bench.due(partOf(says.promise(), document).contains(plain(words)), true, "the document says '" + words + "'");
    int wrong = Bench.wrong;
    try {
      method.invoke(null);
    } catch (InvocationTargetException e) {
      Bench.wrong++;
      System.out.println(Bench.test + " ended with " + e.getCause());
      for (StackTraceElement at : e.getCause().getStackTrace()) {
        if (at.getMethodName().equals(method.getName())) System.out.println("  at line " + at.getLineNumber());
      }
    }
    if (Bench.wrong != wrong) System.out.println("  broken: " + String.join(" .. ", says.value()));
  }

  /** What stands under a promise's heading, or, for 0, all. */
  private static String partOf(int promise, String document) {
    if (promise == 0) return document;
    int from = document.indexOf("## Promise " + promise + ":");
    int to = document.indexOf("## ", from + 3);
    return from < 0 ? "" : document.substring(from, to < 0 ? document.length() : to);
  }
}
