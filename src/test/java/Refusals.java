import java.util.ArrayList;
import java.util.List;
import java.util.concurrent.Callable;
import java.util.function.Consumer;
import java.util.function.Function;
import java.util.function.Supplier;

/** Each call that can be refused: by which exception, which of several, and that nothing has changed by it. */
final class Refusals extends Bench {
  private static final int LOW = Integer.MIN_VALUE;
  private static final int HIGH = Integer.MAX_VALUE;

  /** All that can be seen of an object, each in so few calls that one object, made anew, does for it. */
  private static final List<Function<Gate, String>> SIGHTS = List.of(Refusals::counts, Refusals::slots, Refusals::history, Refusals::logs,
      Refusals::undone, Refusals::goneBack, Refusals::goneOn);

  private static String counts(Gate x) {
    StringBuilder b = new StringBuilder();
    for (int what = -1; what < 15; what++) b.append(x.count(what)).append(' ');
    for (int key = 0; key < 10; key++) for (int what = 0; what < 5; what++) b.append(x.key(key, what)).append(' ');
    for (int client = 0; client < x.count(0); client++) {
      for (int what = 0; what < 9; what++) b.append(x.client(client, what)).append(' ');
      b.append(x.led(client, false)).append(' ').append(x.led(client, true)).append(' ').append(x.pairs(client)).append(' ');
    }
    b.append(x.running()).append(' ').append(x.finished()).append(' ').append(x.pivots()).append(' ').append(x.cut()).append(' ');
    return b.append(x.seed(3)).append(' ').append(x.pairs(NONE)).toString();
  }

  private static String slots(Gate x) {
    StringBuilder b = new StringBuilder();
    for (int slot = 0; slot < 8; slot++) {
      for (int what = 0; what < 16; what++) b.append(x.slot(slot, what)).append(' ');
      for (int key = 0; key < 10; key++) b.append(x.seen(slot, key)).append(' ');
    }
    return b.toString();
  }

  private static String history(Gate x) {
    StringBuilder b = new StringBuilder();
    for (int row = 0; row < 12; row++) {
      for (int what = 0; what < 4; what++) b.append(x.history(row, what)).append(' ');
      for (int key = 0; key < 10; key++) b.append(x.version(row, key, true)).append(' ').append(x.version(row, key, false)).append(' ');
      b.append(x.serial(row)).append(' ');
    }
    return b.toString();
  }

  private static String logs(Gate x) {
    StringBuilder b = new StringBuilder();
    for (int ago = 0; ago < 60; ago++) for (int what = 0; what < 4; what++) b.append(x.log(ago, what)).append(' ');
    return b.toString();
  }

  private static String some(Gate x) {
    StringBuilder b = new StringBuilder();
    for (int what = 0; what < 14; what++) b.append(x.count(what)).append(' ');
    b.append(x.running()).append(' ').append(x.finished()).append(' ').append(x.key(0, 0)).append(' ').append(x.log(0, 2)).append(' ');
    return b.append(x.slot(0, 10)).append(' ').append(x.slot(0, 11)).append('\n').toString();
  }

  private static String undone(Gate x) {
    StringBuilder b = new StringBuilder(some(x));
    for (int i = 0; i < 13; i++) b.append(x.undo()).append(' ').append(some(x));
    return b.append(x.seed(3)).toString();
  }

  private static String goneBack(Gate x) {
    return x.back() + " " + x.seed(3) + " " + some(x) + slots(x);
  }

  /** The draws, the law and what is begun tell on what comes next. */
  private static String goneOn(Gate x) {
    StringBuilder b = new StringBuilder().append(x.trial(60, true)).append(' ').append(x.span(60, false)).append(' ').append(x.span(60, true)).append(' ');
    for (int i = 0; i < 5; i++) b.append(x.ticks(7)).append(' ').append(some(x));
    return b.append(slots(x)).toString();
  }

  private static List<String> sightsOf(Supplier<Gate> scene, Consumer<Gate> first) {
    List<String> sights = new ArrayList<>();
    for (Function<Gate, String> sight : SIGHTS) {
      Gate x = scene.get();
      first.accept(x);
      sights.add(sight.apply(x));
    }
    return sights;
  }

  /**
   * Slot 0 runs, with an edge to slot 1, that has FINISHED; slot 2 only reads; slot 3 HAS WRITTEN key 5; slots 4 to 7 are
   * FREE; client 4 does not run. An image, a law, retries, a log and acts that can be undone are there, and a fault.
   */
  private static Gate scene() {
    Gate x = of("client reads 0 1 writes 2;client reads 2 writes 0;client reads 0 1 2 only;client writes 5;client reads 5 only;version 3 7;purse 50;keep 2",
        "blame 3 if only;pay 2 if retried");
    x.ticks(30);
    for (int slot = 0; slot < 8; slot++) if (x.slot(slot, 0) == 1) x.abort(slot);
    x.image();
    x.begin(0);
    x.read(0, 0);
    x.begin(1);
    x.write(1, 0);
    x.commit(1);
    x.begin(2);
    x.begin(3);
    x.write(3, 5);
    x.abort(x.begin(4));
    wrongLaw(x, "pay 3;foo", 6);
    tell(x, 0, 1, 19, 0);
    return x;
  }

  /** Slot 0 runs, 1 to 6 have FINISHED, 7 runs. */
  private static Gate full() {
    Gate x = of("client;client;client only;keep 6");
    x.begin(0);
    for (int i = 1; i <= 6; i++) x.commit(x.begin(1));
    x.begin(1);
    tell(x, 0, 1, 19, 0);
    return x;
  }

  /** What the tape of a scene holds, asked as rows: four bytes by which client 0 of the first scene fits best. */
  private static void tapeIsLeft(Gate x) {
    due(x.end(5), false);
    due(x.end(4), true);
    due(outcome(x::likely), 0);
    due(x.end(1), false);
  }

  private interface Call { Object of(Gate x); }

  private static Callable<?> callOf(Call call, Gate x) { return () -> call.of(x); }

  private static void each(Supplier<Gate> scene, List<String> want, Class<?> exception, Call... calls) {
    for (int i = 0; i < calls.length; i++) {
      Call call = calls[i];
      String name = line() + ", call " + (i + 1);
      Consumer<Gate> refusal = x -> due(outcome(callOf(call, x)), exception, name);
      List<String> got = sightsOf(scene, refusal);
      for (int s = 0; s < want.size(); s++) if (!got.get(s).equals(want.get(s))) due(got.get(s), want.get(s), name + ", sight " + s);
      Gate x = scene.get();
      int fault = x.fault();
      refusal.accept(x);
      due(x.fault(), fault, name + ", fault()");
      tapeIsLeft(x);
    }
  }

  private static void inScene(Class<?> exception, Call... calls) { each(Refusals::scene, SCENE, exception, calls); }
  private static void inFull(Class<?> exception, Call... calls) { each(Refusals::full, FULL, exception, calls); }

  private static final List<String> SCENE = sightsOf(Refusals::scene, x -> { });
  private static final List<String> FULL = sightsOf(Refusals::full, x -> { });

  @Says("a call that throws changes nothing but the TAPE, where it is used up")
  static void theSceneIsAsTold() {
    Gate x = scene();
    due(x.running(), 13);
    due(x.finished(), 2);
    due(x.slot(0, 7), 2);
    due(x.slot(2, 1), 2);
    due(x.key(5, 4), 3);
    due(x.client(4, 5), NONE);
    due(x.count(13) > 8, true);
    due(x.fault(), 6);
    tapeIsLeft(x);
    due(full().running(), 129);
  }

  @Says(promise = 7, value = "NoSuchElementException: another what")
  static void slotOfNone() {
    inScene(INDEX, x -> x.slot(-1, 0), x -> x.slot(8, 0), x -> x.slot(LOW, 0), x -> x.slot(HIGH, 0));
    inScene(ELEMENT, x -> x.slot(0, -1), x -> x.slot(0, 16), x -> x.slot(7, 16), x -> x.slot(1, LOW), x -> x.slot(4, HIGH));
  }

  @Says(promise = 8, value = "VERSION of a KEY as SEEN by a SLOT")
  static void seenOfNone() {
    inScene(INDEX, x -> x.seen(-1, 0), x -> x.seen(8, 0), x -> x.seen(0, -1), x -> x.seen(0, 10), x -> x.seen(7, 10), x -> x.seen(LOW, HIGH));
  }

  @Says(promise = 9, value = "NoSuchElementException: another what")
  static void keyOfNone() {
    inScene(INDEX, x -> x.key(-1, 0), x -> x.key(10, 0), x -> x.key(LOW, 0), x -> x.key(HIGH, 0));
    inScene(ELEMENT, x -> x.key(0, -1), x -> x.key(0, 5), x -> x.key(9, LOW), x -> x.key(9, HIGH));
  }

  @Says(promise = 10, value = "NoSuchElementException: another what")
  static void clientOfNone() {
    inScene(INDEX, x -> x.client(-1, 0), x -> x.client(5, 0), x -> x.client(LOW, 0), x -> x.client(HIGH, 0));
    inScene(ELEMENT, x -> x.client(0, -1), x -> x.client(0, 9), x -> x.client(4, LOW), x -> x.client(4, HIGH));
    inFull(INDEX, x -> x.client(3, 0), x -> x.client(4, 0));
  }

  @Says(promise = 11, value = "IllegalArgumentException: they are none")
  static void ticksOfNone() {
    inScene(ARGUMENT, x -> x.ticks(0), x -> x.ticks(-1), x -> x.ticks(61), x -> x.ticks(LOW), x -> x.ticks(HIGH));
  }

  @Says(promise = 12, value = "IllegalStateException: it has a RUNNING one, or none is FREE")
  static void beginOfNone() {
    inScene(INDEX, x -> x.begin(-1), x -> x.begin(5), x -> x.begin(LOW), x -> x.begin(HIGH));
    inScene(STATE, x -> x.begin(0), x -> x.begin(2), x -> x.begin(3));
    inFull(INDEX, x -> x.begin(3), x -> x.begin(-1));
    inFull(STATE, x -> x.begin(0), x -> x.begin(1), x -> x.begin(2));
  }

  @Says(promise = 13, value = "IllegalStateException: it was not RUNNING")
  static void readOfNone() {
    inScene(INDEX, x -> x.read(-1, 0), x -> x.read(8, 0), x -> x.read(0, -1), x -> x.read(0, 10), x -> x.read(LOW, 0), x -> x.read(HIGH, 0));
    inScene(STATE, x -> x.read(1, 0), x -> x.read(4, 0), x -> x.read(7, 9));
  }

  @Says(promise = 14, value = "IllegalStateException: it was not RUNNING, is ONLY, or WAITS")
  static void writeOfNone() {
    inScene(INDEX, x -> x.write(-1, 0), x -> x.write(8, 0), x -> x.write(0, -1), x -> x.write(0, 10), x -> x.write(LOW, 0), x -> x.write(HIGH, 0));
    inScene(STATE, x -> x.write(1, 0), x -> x.write(4, 0), x -> x.write(2, 7), x -> x.write(0, 5), x -> x.write(2, 5));
  }

  @Says(promise = 15, value = "IllegalStateException: it is not RUNNING")
  static void commitOfNone() {
    inScene(INDEX, x -> x.commit(-1), x -> x.commit(8), x -> x.commit(LOW), x -> x.commit(HIGH));
    inScene(STATE, x -> x.commit(1), x -> x.commit(4), x -> x.commit(7));
  }

  @Says(promise = 16, value = "IllegalStateException: it is not RUNNING")
  static void abortOfNone() {
    inScene(INDEX, x -> x.abort(-1), x -> x.abort(8), x -> x.abort(LOW), x -> x.abort(HIGH));
    inScene(STATE, x -> x.abort(1), x -> x.abort(4), x -> x.abort(7));
  }

  @Says(promise = 17, value = "IllegalArgumentException: n is none (0 to 6)")
  static void keepOfNone() {
    inScene(ARGUMENT, x -> x.keep(-1), x -> x.keep(7), x -> x.keep(LOW), x -> x.keep(HIGH));
  }

  @Says(promise = 18, value = "IllegalArgumentException: what is none (0 to 2); IllegalStateException: it is not RUNNING")
  static void doomsOfNone() {
    inScene(INDEX, x -> x.dooms(-1, 0, 0), x -> x.dooms(8, 2, 0), x -> x.dooms(0, 0, -1), x -> x.dooms(0, 0, 10), x -> x.dooms(0, 1, -1), x -> x.dooms(0, 1, 10));
    inScene(ARGUMENT, x -> x.dooms(0, -1, 0), x -> x.dooms(0, 3, 0), x -> x.dooms(0, LOW, 0), x -> x.dooms(0, HIGH, 9));
    inScene(STATE, x -> x.dooms(1, 0, 0), x -> x.dooms(4, 1, 0), x -> x.dooms(7, 2, 0), x -> x.dooms(1, 2, 10));
  }

  @Says(promise = 21, value = "NoSuchElementException: another what")
  static void historyOfNone() {
    inScene(ELEMENT, x -> x.history(0, -1), x -> x.history(0, 4), x -> x.history(0, LOW), x -> x.history(0, HIGH), x -> x.history(99, 4));
  }

  @Says(promise = 22, value = "int version(int row, int key, boolean wrote) throws IndexOutOfBoundsException")
  static void versionOfNone() {
    inScene(INDEX, x -> x.version(0, -1, true), x -> x.version(0, 10, false), x -> x.version(99, 10, true), x -> x.version(0, LOW, true), x -> x.version(0, HIGH, true));
  }

  @Says(promise = 24, value = "IllegalArgumentException: both are one")
  static void clashOfNone() {
    inScene(INDEX, x -> x.clash(-1, 0), x -> x.clash(0, -1), x -> x.clash(5, 0), x -> x.clash(0, 5), x -> x.clash(LOW, HIGH));
    inScene(ARGUMENT, x -> x.clash(0, 0), x -> x.clash(4, 4));
  }

  @Says(promise = 31, value = "int pairs(int client) throws IndexOutOfBoundsException")
  static void pairsOfNone() {
    inScene(INDEX, x -> x.pairs(-2), x -> x.pairs(5), x -> x.pairs(LOW), x -> x.pairs(HIGH));
  }

  @Says(promise = 32, value = "IllegalArgumentException: both are one")
  static void restsOfNone() {
    inScene(INDEX, x -> x.rests(-1, 0), x -> x.rests(0, -1), x -> x.rests(5, 0), x -> x.rests(0, 5), x -> x.rests(LOW, HIGH));
    inScene(ARGUMENT, x -> x.rests(0, 0), x -> x.rests(4, 4));
  }

  @Says(promise = 33, value = "IllegalArgumentException: N or K are none")
  static void oddsOfNone() {
    inScene(ARGUMENT, x -> x.odds(-1, 0), x -> x.odds(6, 0), x -> x.odds(0, -1), x -> x.odds(0, 6), x -> x.odds(HIGH, LOW));
  }

  @Says(promise = 34, value = "NoSuchElementException: another what")
  static void mostOfNone() {
    inScene(ELEMENT, x -> x.most(-1), x -> x.most(3), x -> x.most(LOW), x -> x.most(HIGH));
  }

  @Says(promise = 39, value = "IllegalArgumentException: N is none (0 to 60)")
  static void trialOfNone() {
    inScene(ARGUMENT, x -> x.trial(-1, true), x -> x.trial(61, false), x -> x.trial(LOW, true), x -> x.trial(HIGH, false));
  }

  @Says(promise = 40, value = "IllegalArgumentException: N is none (0 to 60)")
  static void spanOfNone() {
    inScene(ARGUMENT, x -> x.span(-1, true), x -> x.span(61, false), x -> x.span(LOW, true), x -> x.span(HIGH, false));
  }

  @Says(promise = 41, value = "int led(int client, boolean stamp) throws IndexOutOfBoundsException")
  static void ledOfNone() {
    inScene(INDEX, x -> x.led(-1, true), x -> x.led(5, false), x -> x.led(LOW, true), x -> x.led(HIGH, false));
  }

  @Says(promise = 42, value = "NoSuchElementException: another what")
  static void logOfNone() {
    inScene(ELEMENT, x -> x.log(0, -1), x -> x.log(0, 4), x -> x.log(99, 4), x -> x.log(0, LOW), x -> x.log(0, HIGH));
  }

  /** A call by which the tape is used up, and nothing else changes but, where a text is read, fault(). */
  private static void usesUp(Supplier<Gate> scene, Class<?> exception, String text, int fault, Call call) {
    List<String> want = sightsOf(scene, x -> x.end(0));
    String name = line() + ", '" + text + "'";
    Consumer<Gate> refusal = x -> {
      tell(x, text);
      due(outcome(callOf(call, x)), exception, name);
    };
    List<String> got = sightsOf(scene, refusal);
    for (int s = 0; s < want.size(); s++) if (!got.get(s).equals(want.get(s))) due(got.get(s), want.get(s), name + ", sight " + s);
    Gate x = scene.get();
    refusal.accept(x);
    due(x.end(1), false, name + ", end(1)");
    due(x.fault(), fault, name + ", fault()");
  }

  @Says(promise = 4, value = "IllegalArgumentException: it is wrong; UnsupportedOperationException: there are 12")
  static void storeOfNone() {
    usesUp(Refusals::scene, ARGUMENT, "version 9 9;keep 0;purse 0;client", 27, Gate::store);
    usesUp(Refusals::scene, ARGUMENT, "version 9 9;keep 0;purse 0;version 5 1", 35, Gate::store);
    usesUp(Refusals::full, ARGUMENT, "client;keep 0;purse 7;version 1 1;client only;client", 46, Gate::store);
    usesUp(Refusals::twelve, UNSUPPORTED, "version 9 9;keep 0;purse 0", NONE, Gate::store);
    usesUp(Refusals::twelve, UNSUPPORTED, "", NONE, Gate::store);
    usesUp(Refusals::twelve, ARGUMENT, "version 9 9;keep 0;purse 0;", 27, Gate::store);
  }

  private static Gate twelve() {
    Gate x = of("client reads 1 writes 1;client reads 1 writes 1;keep 2", "pay 2");
    for (int i = 2; i <= 12; i++) x.store();
    x.image();
    x.begin(0);
    for (int i = 0; i < 3; i++) x.commit(x.begin(1));
    wrongLaw(x, "pay 3;foo", 6);
    return x;
  }

  @Says(promise = 5, value = "IllegalArgumentException: the text is wrong")
  static void lawOfNone() {
    usesUp(Refusals::scene, ARGUMENT, "blame 9;spare 1;pay 30;pay 41", 27, Gate::law);
    usesUp(Refusals::scene, ARGUMENT, "blame", 5, Gate::law);
    usesUp(Refusals::full, ARGUMENT, "pay 3 if slot<", 14, Gate::law);
  }

  @Says(promise = 30, value = "IllegalArgumentException: the TAPE is not that")
  static void rowsOfNone() {
    // Two bytes that are no row; a byte alone; and, in the scene, the fault of the text before stays.
    for (String text : new String[] {"zz", "a", "\u0000\u0002"}) {
      usesUp(Refusals::scene, ARGUMENT, text, 6, Gate::who);
      usesUp(Refusals::scene, ARGUMENT, text, 6, Gate::likely);
      usesUp(Refusals::scene, ARGUMENT, text, 6, Gate::ask);
    }
  }

  @Says(promise = 2, value = "NONE, and none come")
  static void whatAnswersNoChangesNothing() {
    for (Call call : new Call[] {x -> x.end(-1), x -> x.end(5), x -> x.end(HIGH)}) {
      List<String> got = sightsOf(Refusals::scene, x -> due(call.of(x), false));
      due(got.equals(SCENE), true);
      Gate x = scene();
      call.of(x);
      tapeIsLeft(x);
    }
    List<String> got = sightsOf(Refusals::full, x -> due(x.back(), false));
    due(got.equals(FULL), true);
    Supplier<Gate> notUndone = () -> {
      Gate x = full();
      law(x, "");
      return x;
    };
    due(sightsOf(notUndone, x -> due(x.undo(), false)).equals(sightsOf(notUndone, x -> { })), true);
  }

  @Says("Of several exceptions the one told first is thrown")
  static void theOneToldFirst() {
    inScene(INDEX, x -> x.slot(8, 16), x -> x.slot(-1, -1), x -> x.key(10, 5), x -> x.key(-1, -1), x -> x.client(5, 9), x -> x.client(-1, -1));
    inScene(INDEX, x -> x.read(4, 10), x -> x.read(1, -1), x -> x.write(2, 10), x -> x.write(1, 10), x -> x.write(4, -1));
    inScene(INDEX, x -> x.dooms(8, 3, 0), x -> x.dooms(-1, -1, 0), x -> x.dooms(4, 0, 10), x -> x.dooms(1, 1, -1), x -> x.dooms(8, 3, 10));
    inScene(INDEX, x -> x.dooms(0, 3, 10), x -> x.dooms(0, -1, -1), x -> x.dooms(4, 3, -1), x -> x.dooms(1, LOW, HIGH), x -> x.dooms(3, HIGH, LOW));
    inScene(ARGUMENT, x -> x.dooms(4, 3, 0), x -> x.dooms(1, -1, 9));
    inScene(STATE, x -> x.dooms(4, 2, 10), x -> x.dooms(1, 2, LOW));
    inScene(INDEX, x -> x.clash(5, 5), x -> x.clash(-1, -1), x -> x.rests(5, 5), x -> x.rests(-1, -1));
  }

  @Says("IndexOutOfBoundsException: there is no such KEY, CLIENT, SLOT (0 to 7). IllegalArgumentException: a number is none, or two are one. IllegalStateException: it cannot be")
  static void theFirstAndTheLastThatAre() {
    // What is just inside is answered.
    Gate x = scene();
    x.slot(0, 15);
    x.slot(7, 15);
    x.seen(7, 9);
    x.key(9, 4);
    x.client(4, 8);
    due(x.version(0, 9, true) >= NONE, true);
    x.led(4, false);
    x.pairs(4);
    x.clash(4, 0);
    x.rests(0, 4);
    x.dooms(3, 0, 9);
    x.dooms(3, 1, 0);
    due(x.read(3, 9), 0);
    due(x.write(3, 9), true);
    due(x.begin(4), 4);
    due(x.abort(4), 4);
    Gate y = full();
    y.dooms(7, 2, 0);
    due(y.read(7, 9), 0);
    due(y.write(7, 0), true);
    due(y.commit(7) > 0, true);
  }
}
