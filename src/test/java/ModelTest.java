import java.lang.reflect.InvocationTargetException;
import java.lang.reflect.Method;
import java.util.ArrayList;
import java.util.List;
import java.util.Map;
import java.util.Random;
import java.util.TreeMap;

/**
 * Holds SerialGate against Model in random runs of calls, each on an object that is used for 512 calls at most, as the
 * document allows: each answer, each exception, some of what can be seen after each act, and much of it at the end.
 * With two numbers as arguments: from which run on, and how many.
 */
public final class ModelTest {
  private static final int RUNS = 1500;
  private static final int MOST_CALLS = 512;
  /** So many calls are left for the end, and so many an act may need with its text, its looks and its fault. */
  private static final int LAST_CALLS = 150;
  private static final int CALLS_AN_ACT = 40;
  private static final int LOOKS = 4;
  private static final Map<String, Method> GATE = methodsOf(SerialGate.class);
  private static final Map<String, Method> MODEL = methodsOf(Model.class);
  private static final Map<String, Integer> MET = new TreeMap<>();

  private final Random random;
  private final SerialGate gate = new SerialGate();
  private final Model model = new Model();
  private final List<String> calls = new ArrayList<>();
  private int used = 0;

  private ModelTest(int run) { random = new Random(run); }

  private static Map<String, Method> methodsOf(Class<?> type) {
    Map<String, Method> found = new TreeMap<>();
    for (Method m : type.getDeclaredMethods()) if (!m.isSynthetic()) found.put(m.getName(), m);
    return found;
  }

  public static void main(String[] args) {
    int from = args.length > 1 ? Integer.parseInt(args[0]) : 0;
    int runs = args.length > 1 ? Integer.parseInt(args[1]) : RUNS;
    for (int run = from; run < from + runs; run++) {
      try {
        new ModelTest(run).run();
      } catch (AssertionError e) {
        System.out.println("run " + run + ": " + e.getMessage());
        System.exit(1);
      }
    }
    System.out.println("model: " + MET);
    for (String need : "kind0 kind1 kind2 kind3 kind4 kind5 kind6 safe spoilt lastOut inmax outmin doomed cut waits law".split(" ")) {
      if (!MET.containsKey(need)) {
        System.out.println("the random runs never met: " + need);
        System.exit(1);
      }
    }
  }

  private static Object outcome(Object target, Method m, Object[] args) {
    try {
      return m.invoke(target, args);
    } catch (InvocationTargetException e) {
      return "throws." + e.getCause().getClass().getSimpleName();
    } catch (IllegalAccessException e) {
      throw new AssertionError(e);
    }
  }

  private Object call(String name, Object... args) {
    StringBuilder told = new StringBuilder(name).append('(');
    for (Object a : args) told.append(told.charAt(told.length() - 1) == '(' ? "" : ", ").append(a);
    told.append(')');
    used++;
    if (used > MOST_CALLS) throw new AssertionError("one object is used for more than 512 calls");
    Object got = outcome(gate, GATE.get(name), args);
    Object want = outcome(model, MODEL.get(name), args);
    if (got == null ? want != null : !got.equals(want)) {
      throw new AssertionError(told + " answered " + got + ", due is " + want + " after " + calls);
    }
    calls.add(told + "=" + got);
    return got;
  }

  private void tell(int[] bytes) {
    for (int i = 0; i < bytes.length; i += 20) {
      int[] five = new int[5];
      for (int j = 0; j < 20; j++) {
        int b = i + j < bytes.length ? bytes[i + j] : random.nextInt(256);
        five[j / 4] |= b << 24 - 8 * (j % 4);
      }
      call("feed", five[0], five[1], five[2], five[3], five[4]);
    }
    call("end", bytes.length);
  }

  private void tell(String text) {
    String t = text.length() > 400 ? text.substring(0, 400) : text;
    int[] bytes = new int[t.length()];
    for (int i = 0; i < bytes.length; i++) bytes[i] = t.charAt(i);
    tell(bytes);
  }

  private int any(int bound) { return random.nextInt(bound); }
  private int slot() { return any(40) == 0 ? any(12) - 2 : any(6); }
  private int key() { return any(60) == 0 ? any(14) - 2 : any(spread); }
  private int client() { return any(40) == 0 ? any(9) - 2 : any(5); }
  private int spread = 10;

  private String number(int usual) { return any(60) == 0 ? Integer.toString(any(2000)) : Integer.toString(any(usual)); }
  private String blanks() { return " ".repeat(any(12) == 0 ? any(3) : 1); }

  private String numbers(int most) {
    StringBuilder b = new StringBuilder();
    int n = any(50) == 0 ? 9 + any(4) : 1 + any(most);
    for (int i = 0; i < n; i++) b.append(blanks()).append(any(80) == 0 ? number(12) : Integer.toString(any(spread)));
    return b.toString();
  }

  private String clientLine() {
    StringBuilder b = new StringBuilder("client");
    if (any(5) > 0) b.append(blanks()).append("reads").append(numbers(4));
    boolean writes = any(4) > 0;
    if (writes) b.append(blanks()).append("writes").append(numbers(3));
    if (any(writes ? 40 : 2) == 0) b.append(blanks()).append("only");
    return b.toString();
  }

  private String storeText(boolean start) {
    StringBuilder b = new StringBuilder();
    int lines = start ? 2 + any(4) : any(30) == 0 ? 13 + any(3) : 1 + any(2);
    for (int i = 0; i < lines; i++) {
      int what = start ? 0 : any(5);
      String line = what == 0 ? clientLine() : what <= 2 ? "version " + number(10) + " " + number(any(3) == 0 ? 1000 : 4)
          : what == 3 ? "keep " + number(8) : "purse " + number(1000);
      b.append(i == 0 ? "" : blanks() + ";" + blanks()).append(line);
    }
    return mutated(b.toString(), start ? 40 : 6);
  }

  private String mutated(String text, int seldom) {
    if (any(seldom) != 0 || text.isEmpty()) return text;
    int at = any(text.length());
    String signs = "; 0123456789abcxyz()<>+!";
    char sign = any(10) == 0 ? (char) any(256) : signs.charAt(any(signs.length()));
    switch (any(4)) {
      case 0: return text.substring(0, at);
      case 1: return text.substring(0, at) + sign + text.substring(at + 1);
      case 2: return text.substring(0, at) + text.substring(at + 1);
      default: return text.substring(0, at) + sign + text.substring(at);
    }
  }

  private String lawText() {
    if (any(12) == 0) return " ".repeat(any(3));
    StringBuilder b = new StringBuilder();
    int lines = any(20) == 0 ? 12 + any(2) : 1 + any(5);
    for (int i = 0; i < lines; i++) {
      b.append(i == 0 ? "" : ";").append(new String[] {"blame ", "spare ", "pay "}[any(3)]).append(number(41));
      if (any(4) > 0) b.append(" if ").append(condition(0));
    }
    return mutated(b.toString(), 5);
  }

  private String condition(int deep) {
    switch (any(deep > 7 ? 4 : 9)) {
      case 0: return new String[] {"only", "pivot", "retried"}[any(3)];
      case 1: case 2: case 3: return sum() + blanks() + (any(2) == 0 ? "<" : ">") + sum();
      case 4: return "not " + condition(deep + 1);
      case 5: return "(" + blanks() + condition(deep + 1) + ")";
      case 6: return condition(deep + 3) + " or " + condition(deep + 3) + " and " + condition(deep + 3);
      case 7: return condition(deep + 1) + " and " + condition(deep + 2);
      default: return condition(deep + 1) + " or " + condition(deep + 2);
    }
  }

  private String sum() {
    StringBuilder b = new StringBuilder();
    String[] parts = {"slot", "client", "age", "reads", "writes", "retries", "stamp", number(8), number(120)};
    int n = 1 + any(2);
    for (int i = 0; i < n; i++) b.append(i == 0 ? "" : blanks() + "+").append(blanks()).append(parts[any(parts.length)]);
    return b.toString();
  }

  private void run() {
    spread = any(4) == 0 ? 10 : 2 + any(4);
    boolean bare = any(30) == 0;
    if (any(2) == 0) text("law", lawText());
    if (!bare) text("store", storeText(true));
    if (any(2) == 0) call("keep", any(2));
    while (used + CALLS_AN_ACT + LAST_CALLS <= MOST_CALLS) {
      act();
      for (int i = 0; i < LOOKS; i++) look();
      meet();
    }
    lookAtMuch(any(6));
  }

  /** Of a right text that is one too many the document does not say whether it was read: fault() is not asked then. */
  private void text(String which, String text) {
    tell(text);
    call(which);
    call("fault");
  }

  private void act() {
    int pick = any(200);
    if (pick < 40) call("ticks", any(30) == 0 ? any(64) - 1 : 1 + any(any(4) == 0 ? 20 : 3));
    else if (pick < 70) call("begin", client());
    else if (pick < 110) byHand("read");
    else if (pick < 140) byHand("write");
    else if (pick < 158) call("commit", runningSlot());
    else if (pick < 161) call("abort", runningSlot());
    else if (pick < 164) call("keep", any(9) - 1);
    else if (pick < 170) text("store", storeText(false));
    else if (pick < 174) text("law", lawText());
    else if (pick < 184) { if (!Boolean.FALSE.equals(call("undo")) && any(2) == 0) call("undo"); }
    else if (pick < 188) call("image");
    else if (pick < 190) call("back");
    else if (pick < 193) call("seed", random.nextInt());
    else if (pick < 198) guess();
    else tapeEdges();
  }

  private int runningSlot() {
    int running = model.running();
    if (running == 0 || any(15) == 0) return slot();
    int s = any(8);
    while ((running >> s & 1) == 0) s = (s + 1) % 8;
    return s;
  }

  private void byHand(String what) {
    Object got = call(what, runningSlot(), key());
    if (what.equals("write") && "throws.IllegalStateException".equals(got)) met("waits");
  }

  private void guess() {
    int rows = any(20) == 0 ? 19 + any(4) : any(5);
    int[] bytes = new int[2 * rows + (any(25) == 0 ? 1 : 0)];
    for (int i = 0; i < bytes.length; i++) bytes[i] = any(60) == 0 ? any(256) : i % 2 == 0 ? any(20) : any(2);
    for (String name : new String[] {"who", "likely", "ask"}) {
      tell(bytes);
      call(name);
    }
  }

  private void tapeEdges() {
    for (int i = any(22); i >= 0; i--) call("feed", random.nextInt(), random.nextInt(), random.nextInt(), random.nextInt(), random.nextInt());
    call("end", any(500) - 20);
    if (any(2) == 0) call(new String[] {"who", "likely", "ask", "law"}[any(4)]);
    else call("end", 0);
    call("end", 0);
  }

  private static void met(String what) { MET.merge(what, 1, Integer::sum); }

  /** What the runs have met is counted by the model, which costs no call. */
  private void meet() {
    for (int s = 0; s < 8; s++) {
      if (model.slot(s, 14) == 1) met("safe");
      if (model.slot(s, 15) == 1) met("spoilt");
      if (model.slot(s, 12) > 0) met("outmin");
      if (model.slot(s, 13) > 0) met("inmax");
      if (model.slot(s, 10) > 10) met("law");
    }
    for (int k = 0; k < 10; k++) if (model.key(k, 3) > 0) met("lastOut");
    if (model.cut() != 0) met("cut");
    met("kind" + model.log(0, 2));
  }

  /** One of the calls that change nothing, told with a fault only if it is the wrong one. */
  private void look() {
    int kept = calls.size();
    int pick = any(100);
    if (pick < 25) call("slot", slot(), any(50) == 0 ? any(20) - 2 : any(16));
    else if (pick < 35) call("key", key(), any(50) == 0 ? any(9) - 2 : any(5));
    else if (pick < 42) call("count", any(16) - 1);
    else if (pick < 52) call("log", any(30) == 0 ? any(64) - 2 : any(6), any(50) == 0 ? any(8) - 2 : any(4));
    else if (pick < 58) call(new String[] {"running", "finished", "pivots"}[any(3)]);
    else if (pick < 62) call("cut");
    else if (pick < 72) dooms();
    else if (pick < 76) call("seen", slot(), key());
    else if (pick < 82) call("client", client(), any(20) == 0 ? any(11) - 1 : any(8) < 2 ? 8 : any(7));
    else if (pick < 86) call("history", any(14) - 1, any(20) == 0 ? any(6) - 1 : any(4));
    else if (pick < 90) call("version", any(14) - 1, key(), any(2) == 0);
    else if (pick < 93) call("serial", any(14) - 1);
    else if (pick < 95) call("led", client(), any(2) == 0);
    else if (pick < 96) call("trial", any(64) - 2, any(2) == 0);
    else if (pick < 97) call("span", any(64) - 2, any(2) == 0);
    else if (pick < 98) call("rests", client(), client());
    else call("most", any(5) - 1);
    forget(kept);
  }

  private void dooms() {
    int what = any(20) == 0 ? any(5) - 1 : any(3);
    Object got = call("dooms", any(3) == 0 ? slot() : runningSlot(), what, key());
    if (got instanceof Integer && (Integer) got > 0) met("doomed");
  }

  private void forget(int kept) { while (calls.size() > kept) calls.remove(calls.size() - 1); }

  /** All of a part of what can be seen, in the calls that are left. */
  private void lookAtMuch(int part) {
    switch (part) {
      case 0: for (int s = 0; s < 8; s++) for (int what = 0; what < 16; what++) call("slot", s, what); break;
      case 1:
        for (int k = 0; k < 10; k++) for (int what = 0; what < 5; what++) call("key", k, what);
        for (int s = 0; s < 8; s++) for (int k = 0; k < 10; k++) call("seen", s, k);
        break;
      case 2:
        for (int c = 0; c < 5; c++) {
          for (int what = 0; what < 9; what++) call("client", c, what);
          for (int o = -1; o < 6; o++) { call("clash", c, o); call("rests", c, o); }
          call("pairs", c - 1);
        }
        for (String name : "apart rounds cover hot twins fault".split(" ")) call(name);
        break;
      case 3:
        for (int row = 0; row < 13; row++) {
          for (int what = 0; what < 4; what++) call("history", row, what);
          for (int k = 0; k < 3; k++) { call("version", row, k, true); call("version", row, k, false); }
          call("serial", row);
          if (row < model.count(9) && model.serial(row) == -1) throw new AssertionError("no serial order after " + calls);
        }
        break;
      case 4:
        int first = any(30);
        for (int ago = first; ago < first + 32; ago++) for (int what = 0; what < 4; what++) call("log", ago, what);
        break;
      default:
        for (int s = 0; s < 8; s++) for (int what = 0; what < 3; what++) for (int k = 0; k < 3; k++) call("dooms", s, what, k);
        for (int n = -1; n < 7; n++) for (int k = -1; k < 7; k++) call("odds", n, k);
        for (int what = -1; what < 4; what++) call("most", what);
    }
  }
}
