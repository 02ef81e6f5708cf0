import java.io.IOException;
import java.lang.reflect.Constructor;
import java.lang.reflect.Field;
import java.lang.reflect.Method;
import java.lang.reflect.Modifier;
import java.nio.file.Files;
import java.nio.file.Path;
import java.util.List;
import java.util.TreeSet;
import java.util.regex.Matcher;
import java.util.regex.Pattern;

/** The rules of ../shared/LANGUAGE.md that can be looked for in the source and by reflection; run from the project's folder. */
public final class LanguageTest {
  private static final Path SOURCE = Path.of("src/main/java/SerialGate.java");
  private static final Path DOCUMENT = Path.of("../shared/DOC.md");
  private static int wrong = 0;

  private static void need(boolean holds, String what) {
    if (!holds) {
      wrong++;
      System.out.println("LANGUAGE: " + what);
    }
  }

  public static void main(String[] args) throws IOException {
    String source = Files.readString(SOURCE);
    theFace();
    theMembers();
    theWords(source);
    theMethods(source.lines().toList());
    System.out.println("language: " + wrong + " wrong");
    if (wrong != 0) System.exit(1);
  }

  /** Rule 1: the public members are those of the document, all else of the class is private, and no name is shared. */
  private static void theFace() throws IOException {
    TreeSet<String> due = new TreeSet<>();
    Matcher m = Pattern.compile("^    public (?!static)(\\w+) (\\w+)\\((.*?)\\)(?: throws (.*))?;$", Pattern.MULTILINE).matcher(Files.readString(DOCUMENT));
    while (m.find()) {
      String types = m.group(3).replaceAll("(\\w+) \\w+", "$1");
      due.add(m.group(1) + " " + m.group(2) + "(" + types + ") throws " + (m.group(4) == null ? "" : m.group(4)));
    }
    TreeSet<String> found = new TreeSet<>();
    TreeSet<String> open = new TreeSet<>();
    TreeSet<String> hidden = new TreeSet<>();
    for (Method method : SerialGate.class.getDeclaredMethods()) {
      if (method.isSynthetic()) continue;
      if (Modifier.isPrivate(method.getModifiers())) hidden.add(method.getName());
      else {
        open.add(method.getName());
        found.add(method.getReturnType() + " " + method.getName() + "(" + names(method.getParameterTypes()) + ") throws " + names(method.getExceptionTypes()));
      }
    }
    need(due.size() == 46, "the document's face was not found: " + due.size());
    need(due.equals(found), "the face is " + found + ", due is " + due);
    for (Class<?> inner : SerialGate.class.getDeclaredClasses()) {
      for (Method method : inner.getDeclaredMethods()) if (Modifier.isPrivate(method.getModifiers())) hidden.add(method.getName());
    }
    hidden.retainAll(open);
    need(hidden.isEmpty(), "private methods with public names: " + hidden);
    Constructor<?>[] made = SerialGate.class.getDeclaredConstructors();
    need(made.length == 1 && made[0].getParameterCount() == 0 && Modifier.isPublic(made[0].getModifiers()), "the constructor");
    need(Modifier.isFinal(SerialGate.class.getModifiers()), "the class is final");
  }

  private static String names(Class<?>[] types) {
    StringBuilder b = new StringBuilder();
    for (Class<?> t : types) b.append(b.length() == 0 ? "" : ", ").append(t.getSimpleName());
    return b.toString();
  }

  /** Rules 1, 2, 5 and 11: fields and classes. */
  private static void theMembers() {
    need(SerialGate.class.getDeclaredClasses().length <= 12, "too many classes");
    fields(SerialGate.class);
    for (Field f : SerialGate.class.getDeclaredFields()) {
      need(Modifier.isPrivate(f.getModifiers()) || f.getName().equals("NONE"), "field " + f + " is not private");
    }
    for (Class<?> inner : SerialGate.class.getDeclaredClasses()) {
      need(Modifier.isStatic(inner.getModifiers()), inner + " is not static");
      fields(inner);
    }
  }

  private static void fields(Class<?> type) {
    int own = 0;
    for (Field f : type.getDeclaredFields()) {
      boolean isStatic = Modifier.isStatic(f.getModifiers());
      need(!isStatic || Modifier.isFinal(f.getModifiers()), "static field " + f + " is not final");
      if (!isStatic) own++;
    }
    need(own <= 20, type + " has " + own + " fields");
  }

  /** Rules 3, 4, 6, 10 and 13: what stands nowhere in the source. */
  private static void theWords(String source) {
    String code = source.replaceAll("(?s)/\\*.*?\\*/", "").replaceAll("//[^\n]*", "");
    for (String word : "try catch finally synchronized assert instanceof double float volatile native transient goto Object Thread Exact equals hashCode toString getMessage".split(" ")) {
      need(!Pattern.compile("\\b\\w*" + word + "\\b").matcher(code).find(), "'" + word + "' stands in the source");
    }
    for (String sign : List.of("->", "::", "\" +", "+ \"", "package ", "@")) need(!code.contains(sign), "'" + sign + "' stands in the source");
    Matcher imports = Pattern.compile("(?m)^import (.*);$").matcher(code);
    while (imports.find()) need(imports.group(1).equals("java.util.NoSuchElementException"), "import " + imports.group(1));
    Matcher thrown = Pattern.compile("throw (.*)").matcher(code);
    while (thrown.find()) need(thrown.group(1).matches("new \\w+\\(\"[^\"]*\"\\);"), "throw " + thrown.group(1));
    for (int i = 0; i < source.length(); i++) need(source.charAt(i) < 128, "a sign above 127 at " + i);
  }

  /** Rule 11: short methods of few parameters. */
  private static void theMethods(List<String> lines) {
    int from = 0;
    for (int i = 0; i < lines.size(); i++) {
      String line = lines.get(i);
      if (line.matches("(    |        )\\w.*\\(.*\\{")) {
        from = i;
        need(line.split(",").length <= 7, "too many parameters: " + line);
      }
      if (line.equals("        }") || line.equals("    }")) need(i - from < 60 || line.equals("    }"), "a method of more than 60 lines at line " + (from + 1));
      need(line.length() <= 120, "line " + (i + 1) + " is too long");
    }
  }
}
