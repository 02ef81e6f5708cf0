import java.io.IOException;
import java.lang.reflect.Constructor;
import java.lang.reflect.Field;
import java.lang.reflect.Method;
import java.lang.reflect.Modifier;
import java.nio.file.Files;
import java.nio.file.Path;
import java.util.List;
import java.util.TreeSet;
import java.util.regex.Matcher;
import java.util.regex.Pattern;

/** The rules of ../shared/LANGUAGE.md that can be looked for in the source and by reflection; run from the project's folder. */
public final class LanguageTest {
  private static final Path SOURCE = Path.of("src/main/java/SerialGate.java");
  private static final Path DOCUMENT = Path.of("../shared/DOC.md");
  /** The rules say 'some' twelve classes, twenty fields and sixty lines; these are the most that this still is. */
  private static final int MOST_CLASSES = 14;
  private static final int MOST_FIELDS = 24;
  private static final int MOST_LINES = 75;
  private static final List<String> IMPORTS = List.of("java.util.NoSuchElementException", "java.util.ArrayList", "java.util.List", "java.util.Iterator", "java.util.Arrays");
  private static final String EXCEPTIONS = "IllegalStateException|IllegalArgumentException|IndexOutOfBoundsException|ArithmeticException"
      + "|UnsupportedOperationException|NoSuchElementException|RuntimeException";
  private static int wrong = 0;

  private static void need(boolean holds, String what) {
    if (!holds) {
      wrong++;
      System.out.println("LANGUAGE: " + what);
    }
  }

  public static void main(String[] args) throws IOException {
    String source = Files.readString(SOURCE);
    theFace();
    theMembers();
    theWords(source);
    theMethods(codeOf(source).lines().toList());
    System.out.println("language: " + wrong + " wrong");
    if (wrong != 0) System.exit(1);
  }

  /** Rule 1: the public members are those of the document, all else of the class is private, and no name is shared. */
  private static void theFace() throws IOException {
    TreeSet<String> due = new TreeSet<>();
    Matcher m = Pattern.compile("^    public (?!static)(\\w+) (\\w+)\\((.*?)\\)(?: throws (.*))?;$", Pattern.MULTILINE).matcher(Files.readString(DOCUMENT));
    while (m.find()) {
      String types = m.group(3).replaceAll("(\\w+) \\w+", "$1");
      due.add(m.group(1) + " " + m.group(2) + "(" + types + ") throws " + (m.group(4) == null ? "" : m.group(4)));
    }
    TreeSet<String> found = new TreeSet<>();
    TreeSet<String> open = new TreeSet<>();
    TreeSet<String> hidden = new TreeSet<>();
    for (Method method : SerialGate.class.getDeclaredMethods()) {
      if (method.isSynthetic()) continue;
      if (Modifier.isPrivate(method.getModifiers())) hidden.add(method.getName());
      else {
        open.add(method.getName());
        found.add(method.getReturnType() + " " + method.getName() + "(" + names(method.getParameterTypes()) + ") throws " + names(method.getExceptionTypes()));
      }
    }
    need(due.size() == 46, "the document's face was not found: " + due.size());
    need(due.equals(found), "the face is " + found + ", due is " + due);
    hidden.retainAll(open);
    need(hidden.isEmpty(), "private methods with public names: " + hidden);
    Constructor<?>[] made = SerialGate.class.getDeclaredConstructors();
    need(made.length == 1 && made[0].getParameterCount() == 0 && Modifier.isPublic(made[0].getModifiers()), "the constructor");
    need(Modifier.isFinal(SerialGate.class.getModifiers()), "the class is final");
    theConstant();
  }

  private static void theConstant() {
    int due = Modifier.PUBLIC | Modifier.STATIC | Modifier.FINAL;
    Field[] fields = SerialGate.class.getFields();
    need(fields.length == 1 && fields[0].getName().equals("NONE") && fields[0].getModifiers() == due, "the public fields");
    need(fields[0].getType() == int.class && SerialGate.NONE == -1, "NONE");
  }

  private static String names(Class<?>[] types) {
    StringBuilder b = new StringBuilder();
    for (Class<?> t : types) b.append(b.length() == 0 ? "" : ", ").append(t.getSimpleName());
    return b.toString();
  }

  /** Rules 1, 2, 5 and 11: fields, parameters and classes. */
  private static void theMembers() {
    need(SerialGate.class.getDeclaredClasses().length <= MOST_CLASSES, "too many classes");
    theMembersOf(SerialGate.class);
    for (Field f : SerialGate.class.getDeclaredFields()) {
      need(Modifier.isPrivate(f.getModifiers()) || f.isSynthetic() || f.getName().equals("NONE"), "field " + f + " is not private");
    }
    for (Class<?> inner : SerialGate.class.getDeclaredClasses()) {
      need(!Modifier.isPublic(inner.getModifiers()) && !Modifier.isProtected(inner.getModifiers()), inner + " is open");
      theMembersOf(inner);
    }
  }

  private static void theMembersOf(Class<?> type) {
    int own = 0;
    for (Field f : type.getDeclaredFields()) {
      boolean isStatic = Modifier.isStatic(f.getModifiers());
      need(!isStatic || Modifier.isFinal(f.getModifiers()), "static field " + f + " is not final");
      if (!isStatic) own++;
    }
    need(own <= MOST_FIELDS, type + " has " + own + " fields");
    for (Method m : type.getDeclaredMethods()) need(m.isSynthetic() || m.getParameterCount() <= 7, m + " has too many parameters");
  }

  /** The source without comments, and without what stands in its texts and signs. */
  private static String codeOf(String source) {
    return source.replaceAll("\"(\\\\.|[^\"\\\\\n])*\"", "\"\"").replaceAll("'(\\\\.|[^'\\\\])'", "' '").replaceAll("(?s)/\\*.*?\\*/", "").replaceAll("//[^\n]*", "");
  }

  /** Rules 3, 4, 6, 10 and 13: what stands nowhere in the source. */
  private static void theWords(String source) {
    String code = codeOf(source);
    for (String word : ("finally synchronized assert volatile native transient Object Thread Random Scanner System.out System.in System.nanoTime "
        + "System.currentTimeMillis hashCode getMessage Throwable Error Exception ArrayIndexOutOfBoundsException NullPointerException "
        + "ClassCastException NegativeArraySizeException ArrayStoreException").split(" ")) {
      need(!Pattern.compile("\\b" + Pattern.quote(word) + "\\b").matcher(code).find(), "'" + word + "' stands in the source");
    }
    need(!Pattern.compile("\\w+Exact\\s*\\(").matcher(code).find(), "an Exact function stands in the source");
    need(!Pattern.compile("\\b(Integer|Long|Math)\\.\\w+\\b(?!\\s*\\()").matcher(code).find(), "more than functions of Integer, Long or Math stand in the source");
    for (String sign : List.of("::", "\"\" +", "+ \"\"", "package ")) need(!code.contains(sign), "'" + sign + "' stands in the source");
    for (String line : code.lines().toList()) {
      need(!line.contains("->") || line.matches("\\s*(case|default)\\b.*"), "a lambda: " + line);
      need(!line.contains("@") || line.strip().equals("@Override"), "an annotation: " + line);
    }
    Matcher imports = Pattern.compile("(?m)^import (.*);$").matcher(code);
    while (imports.find()) need(IMPORTS.contains(imports.group(1)), "import " + imports.group(1));
    Matcher thrown = Pattern.compile("throw (.*)").matcher(code);
    while (thrown.find()) need(thrown.group(1).matches("new (" + EXCEPTIONS + ")\\((\"\")?\\);.*"), "throw " + thrown.group(1));
    for (int i = 0; i < source.length(); i++) need(source.charAt(i) < 128, "a sign above 127 at " + i);
  }

  /** Rule 11: short methods. A method is what begins with a name and ( in the body of a class. */
  private static void theMethods(List<String> lines) {
    int deep = 0;
    int from = -1;
    int fromDeep = 0;
    for (int i = 0; i < lines.size(); i++) {
      String line = lines.get(i);
      boolean head = line.matches("\\s+[\\w<].*\\(.*\\{\\s*") && !line.matches("\\s+(if|else|for|while|do|switch|try|catch|new|return|enum|class|record|interface)\\b.*");
      if (head && from < 0) {
        from = i;
        fromDeep = deep;
      }
      for (char c : line.toCharArray()) deep += c == '{' ? 1 : c == '}' ? -1 : 0;
      if (from >= 0 && deep <= fromDeep) {
        need(i - from <= MOST_LINES, "a method of more than " + MOST_LINES + " lines at line " + (from + 1));
        from = -1;
      }
    }
  }
}
