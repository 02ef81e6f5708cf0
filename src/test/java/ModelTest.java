import java.lang.reflect.InvocationTargetException;
import java.lang.reflect.Method;
import java.util.ArrayList;
import java.util.List;
import java.util.Map;
import java.util.Random;
import java.util.TreeMap;

/**
 * Holds SerialGate against Model in random runs of calls: each answer, each exception, and all that can be seen after
 * each act. With two numbers as arguments: from which run on, and how many.
 */
public final class ModelTest {
  private static final int RUNS = 120;
  private static final int ACTS = 130;
  private static final Map<String, Method> GATE = methodsOf(SerialGate.class);
  private static final Map<String, Method> MODEL = methodsOf(Model.class);
  private static final Map<String, Integer> MET = new TreeMap<>();

  private final Random random;
  private final SerialGate gate = new SerialGate();
  private final Model model = new Model();
  private final List<String> calls = new ArrayList<>();

  private ModelTest(int run) { random = new Random(run); }

  private static Map<String, Method> methodsOf(Class<?> type) {
    Map<String, Method> found = new TreeMap<>();
    for (Method m : type.getDeclaredMethods()) if (!m.isSynthetic()) found.put(m.getName(), m);
    return found;
  }

  public static void main(String[] args) {
    int from = args.length > 1 ? Integer.parseInt(args[0]) : 0;
    int runs = args.length > 1 ? Integer.parseInt(args[1]) : RUNS;
    for (int run = from; run < from + runs; run++) {
      try {
        new ModelTest(run).run();
      } catch (AssertionError e) {
        System.out.println("run " + run + ": " + e.getMessage());
        System.exit(1);
      }
    }
    System.out.println("model: " + MET);
    for (String need : "kind0 kind1 kind2 kind3 kind4 kind5 kind6 safe spoilt lastOut inmax outmin doomed cut waits law".split(" ")) {
      if (!MET.containsKey(need)) {
        System.out.println("the random runs never met: " + need);
        System.exit(1);
      }
    }
  }

  private static Object outcome(Object target, Method m, Object[] args) {
    try {
      return m.invoke(target, args);
    } catch (InvocationTargetException e) {
      return "throws." + e.getCause().getClass().getSimpleName();
    } catch (IllegalAccessException e) {
      throw new AssertionError(e);
    }
  }

  private Object call(String name, Object... args) {
    StringBuilder told = new StringBuilder(name).append('(');
    for (Object a : args) told.append(told.charAt(told.length() - 1) == '(' ? "" : ", ").append(a);
    told.append(')');
    Object got = outcome(gate, GATE.get(name), args);
    Object want = outcome(model, MODEL.get(name), args);
    if (got == null ? want != null : !got.equals(want)) {
      throw new AssertionError(told + " answered " + got + ", due is " + want + " after " + calls);
    }
    calls.add(told + "=" + got);
    return got;
  }

  private void tell(int[] bytes) {
    for (int i = 0; i < bytes.length; i += 20) {
      int[] five = new int[5];
      for (int j = 0; j < 20; j++) {
        int b = i + j < bytes.length ? bytes[i + j] : random.nextInt(256);
        five[j / 4] |= b << 24 - 8 * (j % 4);
      }
      call("feed", five[0], five[1], five[2], five[3], five[4]);
    }
    call("end", bytes.length);
  }

  private void tell(String text) {
    String t = text.length() > 400 ? text.substring(0, 400) : text;
    int[] bytes = new int[t.length()];
    for (int i = 0; i < bytes.length; i++) bytes[i] = t.charAt(i);
    tell(bytes);
  }

  private int any(int bound) { return random.nextInt(bound); }
  private int slot() { return any(40) == 0 ? any(12) - 2 : any(6); }
  private int key() { return any(60) == 0 ? any(14) - 2 : any(spread); }
  private int client() { return any(40) == 0 ? any(9) - 2 : any(5); }
  private int spread = 10;

  private String number(int usual) { return any(60) == 0 ? Integer.toString(any(2000)) : Integer.toString(any(usual)); }
  private String blanks() { return " ".repeat(any(12) == 0 ? any(3) : 1); }

  private String numbers(int most) {
    StringBuilder b = new StringBuilder();
    int n = any(50) == 0 ? 9 + any(4) : 1 + any(most);
    for (int i = 0; i < n; i++) b.append(blanks()).append(any(80) == 0 ? number(12) : Integer.toString(any(spread)));
    return b.toString();
  }

  private String clientLine() {
    StringBuilder b = new StringBuilder("client");
    if (any(5) > 0) b.append(blanks()).append("reads").append(numbers(4));
    boolean writes = any(4) > 0;
    if (writes) b.append(blanks()).append("writes").append(numbers(3));
    if (any(writes ? 40 : 2) == 0) b.append(blanks()).append("only");
    return b.toString();
  }

  private String storeText(boolean start) {
    StringBuilder b = new StringBuilder();
    int lines = start ? 2 + any(4) : any(30) == 0 ? 13 + any(3) : 1 + any(2);
    for (int i = 0; i < lines; i++) {
      int what = start ? 0 : any(5);
      String line = what == 0 ? clientLine() : what <= 2 ? "version " + number(10) + " " + number(any(3) == 0 ? 1000 : 4)
          : what == 3 ? "keep " + number(8) : "purse " + number(1000);
      b.append(i == 0 ? "" : blanks() + ";" + blanks()).append(line);
    }
    return mutated(b.toString(), start ? 40 : 6);
  }

  private String mutated(String text, int seldom) {
    if (any(seldom) != 0 || text.isEmpty()) return text;
    int at = any(text.length());
    String signs = "; 0123456789abcxyz()<>+!";
    char sign = any(10) == 0 ? (char) any(256) : signs.charAt(any(signs.length()));
    switch (any(4)) {
      case 0: return text.substring(0, at);
      case 1: return text.substring(0, at) + sign + text.substring(at + 1);
      case 2: return text.substring(0, at) + text.substring(at + 1);
      default: return text.substring(0, at) + sign + text.substring(at);
    }
  }

  private String lawText() {
    if (any(12) == 0) return " ".repeat(any(3));
    StringBuilder b = new StringBuilder();
    int lines = any(20) == 0 ? 12 + any(2) : 1 + any(5);
    for (int i = 0; i < lines; i++) {
      b.append(i == 0 ? "" : ";").append(new String[] {"blame ", "spare ", "pay "}[any(3)]).append(number(41));
      if (any(4) > 0) b.append(" if ").append(condition(0));
    }
    return mutated(b.toString(), 5);
  }

  private String condition(int deep) {
    switch (any(deep > 7 ? 4 : 9)) {
      case 0: return new String[] {"only", "pivot", "retried"}[any(3)];
      case 1: case 2: case 3: return sum() + blanks() + (any(2) == 0 ? "<" : ">") + sum();
      case 4: return "not " + condition(deep + 1);
      case 5: return "(" + blanks() + condition(deep + 1) + ")";
      case 6: return condition(deep + 3) + " or " + condition(deep + 3) + " and " + condition(deep + 3);
      case 7: return condition(deep + 1) + " and " + condition(deep + 2);
      default: return condition(deep + 1) + " or " + condition(deep + 2);
    }
  }

  private String sum() {
    StringBuilder b = new StringBuilder();
    String[] parts = {"slot", "client", "age", "reads", "writes", "retries", "stamp", number(8), number(120)};
    int n = 1 + any(2);
    for (int i = 0; i < n; i++) b.append(i == 0 ? "" : blanks() + "+").append(blanks()).append(parts[any(parts.length)]);
    return b.toString();
  }

  private void run() {
    spread = any(4) == 0 ? 10 : 2 + any(4);
    boolean bare = any(30) == 0;
    if (any(2) == 0) { tell(lawText()); call("law"); call("fault"); }
    if (!bare) { tell(storeText(true)); call("store"); call("fault"); }
    if (any(2) == 0) call("keep", any(2));
    lookAtAll();
    for (int i = 0; i < ACTS; i++) {
      act();
      lookAtSlots();
      if (any(10) == 0) lookAtAll();
    }
    lookAtAll();
  }

  private void act() {
    int pick = any(200);
    if (pick < 40) call("ticks", any(30) == 0 ? any(64) - 1 : 1 + any(any(4) == 0 ? 20 : 3));
    else if (pick < 70) call("begin", client());
    else if (pick < 110) byHand("read");
    else if (pick < 140) byHand("write");
    else if (pick < 158) call("commit", runningSlot());
    else if (pick < 161) call("abort", runningSlot());
    else if (pick < 164) call("keep", any(9) - 1);
    else if (pick < 170) { tell(storeText(false)); call("store"); call("fault"); }
    else if (pick < 174) { tell(lawText()); call("law"); call("fault"); }
    else if (pick < 184) { if (!Boolean.FALSE.equals(call("undo")) && any(2) == 0) call("undo"); }
    else if (pick < 188) call("image");
    else if (pick < 190) call("back");
    else if (pick < 193) call("seed", random.nextInt());
    else if (pick < 198) guess();
    else tapeEdges();
  }

  private int runningSlot() {
    int running = gate.running();
    if (running == 0 || any(15) == 0) return slot();
    int s = any(8);
    while ((running >> s & 1) == 0) s = (s + 1) % 8;
    return s;
  }

  private void byHand(String what) {
    Object got = call(what, runningSlot(), key());
    if (what.equals("write") && "throws.IllegalStateException".equals(got)) met("waits");
  }

  private void guess() {
    int rows = any(20) == 0 ? 19 + any(4) : any(5);
    int[] bytes = new int[2 * rows + (any(25) == 0 ? 1 : 0)];
    for (int i = 0; i < bytes.length; i++) bytes[i] = any(60) == 0 ? any(256) : i % 2 == 0 ? any(20) : any(2);
    for (String name : new String[] {"who", "likely", "ask"}) {
      tell(bytes);
      call(name);
    }
  }

  private void tapeEdges() {
    for (int i = any(22); i >= 0; i--) call("feed", random.nextInt(), random.nextInt(), random.nextInt(), random.nextInt(), random.nextInt());
    call("end", any(500) - 20);
    if (any(2) == 0) call(new String[] {"who", "likely", "ask", "law", "store"}[any(5)]);
    else call("end", 0);
    call("fault");
    call("end", 0);
  }

  private static void met(String what) { MET.merge(what, 1, Integer::sum); }

  private void lookAtSlots() {
    int kept = calls.size();
    for (int s = 0; s < 8; s++) for (int what = 0; what < 16; what++) call("slot", s, what);
    for (int k = 0; k < 10; k++) for (int what = 0; what < 5; what++) call("key", k, what);
    for (int what = -1; what < 15; what++) call("count", what);
    for (int ago = 0; ago < 8; ago++) for (int what = 0; what < 4; what++) call("log", ago, what);
    call("running");
    call("finished");
    call("pivots");
    if (!call("cut").equals(0)) met("cut");
    for (int what = 0; what < 3; what++) if (!(call("dooms", any(6), what, any(10)) instanceof String) && lastAnswer() > 0) met("doomed");
    for (int s = 0; s < 8; s++) {
      if (gate.slot(s, 14) == 1) met("safe");
      if (gate.slot(s, 15) == 1) met("spoilt");
      if (gate.slot(s, 12) > 0) met("outmin");
      if (gate.slot(s, 13) > 0) met("inmax");
      if (gate.slot(s, 10) > 10) met("law");
    }
    for (int k = 0; k < 10; k++) if (gate.key(k, 3) > 0) met("lastOut");
    met("kind" + gate.log(0, 2));
    forget(kept);
  }

  private int lastAnswer() {
    String last = calls.get(calls.size() - 1);
    return Integer.parseInt(last.substring(last.indexOf('=') + 1));
  }

  /** Calls that change nothing need not be told with a fault. */
  private void forget(int kept) { while (calls.size() > kept) calls.remove(calls.size() - 1); }

  private void lookAtAll() {
    int kept = calls.size();
    for (int s = -1; s < 9; s++) for (int k = -1; k < 11; k++) call("seen", s, k);
    for (int c = -2; c < 6; c++) {
      for (int what = -1; what < 10; what++) call("client", c, what);
      for (int o = -1; o < 6; o++) { call("clash", c, o); call("rests", c, o); }
      call("pairs", c);
      call("led", c, true);
      call("led", c, false);
    }
    for (int row = -1; row < 13; row++) {
      for (int what = -1; what < 5; what++) call("history", row, what);
      for (int k = -1; k < 11; k++) { call("version", row, k, true); call("version", row, k, false); }
      call("serial", row);
      if (row >= 0 && row < gate.count(9) && gate.serial(row) == -1) throw new AssertionError("no serial order after " + calls);
    }
    for (int ago = -1; ago < 62; ago++) for (int what = -1; what < 5; what++) call("log", ago, what);
    for (int s = -1; s < 9; s++) for (int what = -1; what < 17; what++) call("slot", s, what);
    for (int k = -1; k < 11; k++) for (int what = -1; what < 6; what++) call("key", k, what);
    for (int s = -1; s < 9; s++) for (int what = -1; what < 4; what++) for (int k = -1; k < 11; k++) call("dooms", s, what, k);
    for (int n = -1; n < 7; n++) for (int k = -1; k < 7; k++) call("odds", n, k);
    for (String name : "apart rounds cover hot twins running finished pivots cut fault".split(" ")) call(name);
    for (int what = -1; what < 4; what++) call("most", what);
    call("trial", any(64) - 2, true);
    call("trial", any(64) - 2, false);
    call("span", any(64) - 2, true);
    call("span", any(64) - 2, false);
    forget(kept);
  }
}
