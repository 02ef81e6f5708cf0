import java.util.NoSuchElementException;
import java.util.concurrent.Callable;

/** What the tests of edges share: answers that are due, refusals, texts, and objects in the states they begin with. */
abstract class Bench {
  static final int NONE = -1;
  static final Class<?> INDEX = IndexOutOfBoundsException.class;
  static final Class<?> ARGUMENT = IllegalArgumentException.class;
  static final Class<?> STATE = IllegalStateException.class;
  static final Class<?> ELEMENT = NoSuchElementException.class;
  static final Class<?> UNSUPPORTED = UnsupportedOperationException.class;
  static int wrong = 0;
  static int done = 0;
  static String test = "";

  static void due(Object got, Object want, String what) {
    done++;
    if (!got.equals(want)) {
      wrong++;
      System.out.println(test + ", " + what + ": answered " + got + ", due is " + want);
    }
  }

  static void due(Object got, Object want) { due(got, want, line()); }

  /** The line of the test that asks, which lies above what helps it here. */
  static String line() {
    for (StackTraceElement e : new Throwable().getStackTrace()) {
      if (!e.getClassName().equals(Bench.class.getName())) return "line " + e.getLineNumber();
    }
    return "no line";
  }

  static void refused(Class<?> want, Callable<?> call) { due(outcome(call), want, line()); }

  static Object outcome(Callable<?> call) {
    try {
      return call.call();
    } catch (Exception e) {
      return e.getClass();
    }
  }

  static int[] bytesOf(String text) {
    int[] bytes = new int[text.length()];
    for (int i = 0; i < bytes.length; i++) bytes[i] = text.charAt(i);
    return bytes;
  }

  static void tell(Gate x, String text) { tell(x, bytesOf(text)); }

  /** These bytes alone are on the tape then. */
  static void tell(Gate x, int... bytes) {
    x.end(0);
    for (int i = 0; i < bytes.length; i += 20) {
      int[] five = new int[5];
      for (int j = i; j < i + 20 && j < bytes.length; j++) five[(j - i) / 4] |= bytes[j] << 24 - 8 * (j % 4);
      x.feed(five[0], five[1], five[2], five[3], five[4]);
    }
    x.end(bytes.length);
  }

  static int store(Gate x, String text) {
    tell(x, text);
    return x.store();
  }

  static int law(Gate x, String text) {
    tell(x, text);
    return x.law();
  }

  static Gate of(String store) {
    Gate x = new Gate();
    store(x, store);
    return x;
  }

  static Gate of(String store, String law) {
    Gate x = of(store);
    law(x, law);
    return x;
  }

  static void wrongStore(Gate x, String text, int at) {
    tell(x, text);
    due(outcome(x::store), ARGUMENT, line() + ", store '" + text + "'");
    due(x.fault(), at, line() + ", fault() of store '" + text + "'");
  }

  static void wrongStore(String text, int at) { wrongStore(new Gate(), text, at); }

  static void rightStore(String text) {
    Gate x = new Gate();
    tell(x, text);
    due(outcome(x::store), 1, line() + ", store '" + text + "'");
    due(x.fault(), NONE, line() + ", fault() of store '" + text + "'");
  }

  static void wrongLaw(Gate x, String text, int at) {
    tell(x, text);
    due(outcome(x::law), ARGUMENT, line() + ", law '" + text + "'");
    due(x.fault(), at, line() + ", fault() of law '" + text + "'");
  }

  static void wrongLaw(String text, int at) { wrongLaw(new Gate(), text, at); }

  static void rightLaw(String text, int lines) {
    Gate x = new Gate();
    tell(x, text);
    due(outcome(x::law), lines, line() + ", law '" + text + "'");
    due(x.fault(), NONE, line() + ", fault() of law '" + text + "'");
  }

  static String lines(String line, int n) { return n == 0 ? "" : (line + ";").repeat(n - 1) + line; }

  /** Of a slot: what 0 to 15, in their order. */
  static void slotIs(Gate x, int slot, int... want) {
    for (int what = 0; what < want.length; what++) {
      due(x.slot(slot, what), want[what], line() + ", slot(" + slot + ", " + what + ")");
    }
  }

  /** Of a key: its version, LAST READ, LAST WRITTEN, LAST OUT, and who runs and has written it. */
  static void keyIs(Gate x, int key, int... want) {
    for (int what = 0; what < want.length; what++) {
      due(x.key(key, what), want[what], line() + ", key(" + key + ", " + what + ")");
    }
  }

  /** The log from the latest on: stamp, client, kind and slot of each row. */
  static void logIs(Gate x, int[]... want) {
    for (int ago = 0; ago < want.length; ago++) {
      for (int what = 0; what < 4; what++) {
        due(x.log(ago, what), want[ago][what], line() + ", log(" + ago + ", " + what + ")");
      }
    }
  }

  static int[] row(int... numbers) { return numbers; }
}
