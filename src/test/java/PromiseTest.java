import java.util.NoSuchElementException;
import java.util.concurrent.Callable;

/** Each promise of the document by answers worked out by hand: ordinary ones, edges and wrong ones. */
public final class PromiseTest {
  private static final int NONE = Gate.NONE;
  private static final Class<?> INDEX = IndexOutOfBoundsException.class;
  private static final Class<?> ARGUMENT = IllegalArgumentException.class;
  private static final Class<?> STATE = IllegalStateException.class;
  private static final Class<?> ELEMENT = NoSuchElementException.class;
  private static final Class<?> UNSUPPORTED = UnsupportedOperationException.class;
  private static int wrong = 0;
  private static int done = 0;
  private static int promise = 0;

  private static void due(Object got, Object want, String what) {
    done++;
    if (!got.equals(want)) {
      wrong++;
      System.out.println("promise " + promise + ": " + what + " answered " + got + ", due is " + want);
    }
  }

  private static void due(Object got, Object want) {
    due(got, want, "line " + new Throwable().getStackTrace()[1].getLineNumber());
  }

  private static void fails(Class<?> want, Callable<?> call) {
    String line = "line " + new Throwable().getStackTrace()[1].getLineNumber();
    Object got;
    try {
      got = call.call();
    } catch (Exception e) {
      got = e.getClass();
    }
    due(got, want, line);
  }

  private static void tell(Gate x, String text) {
    int[] bytes = new int[text.length()];
    for (int i = 0; i < bytes.length; i++) bytes[i] = text.charAt(i);
    tell(x, bytes);
  }

  private static void tell(Gate x, int... bytes) {
    x.end(0);
    for (int i = 0; i < bytes.length; i += 20) {
      int[] five = new int[5];
      for (int j = i; j < i + 20 && j < bytes.length; j++) five[(j - i) / 4] |= bytes[j] << 24 - 8 * (j % 4);
      x.feed(five[0], five[1], five[2], five[3], five[4]);
    }
    x.end(bytes.length);
  }

  private static Gate of(String store) {
    Gate x = new Gate();
    tell(x, store);
    x.store();
    return x;
  }

  private static Gate of(String store, String law) {
    Gate x = of(store);
    tell(x, law);
    x.law();
    return x;
  }

  private static void wrongStore(Gate x, String text, int at) {
    tell(x, text);
    fails(ARGUMENT, x::store);
    due(x.fault(), at, "fault() of store '" + text + "'");
  }

  private static void wrongLaw(String text, int at) {
    Gate x = new Gate();
    tell(x, text);
    fails(ARGUMENT, x::law);
    due(x.fault(), at, "fault() of law '" + text + "'");
    due(x.count(4), NONE, "count(4) behind the wrong law '" + text + "'");
  }

  private static void blame(String law, int want) {
    Gate x = of("client reads 0 1 writes 2;client reads 2 only", law);
    x.begin(1);
    x.begin(0);
    x.read(1, 0);
    x.read(1, 1);
    x.write(1, 2);
    due(x.slot(1, 10), want, "BLAME by '" + law + "'");
  }

  private static String repeated(String part, int n) { return part.repeat(n); }

  /** Two that read both keys and write one each: of these one must fail. */
  private static Gate skewed() {
    Gate x = of("client reads 0 1 writes 0;client reads 0 1 writes 1");
    x.begin(0);
    x.begin(1);
    x.read(0, 0);
    x.read(0, 1);
    x.read(1, 0);
    x.read(1, 1);
    x.write(0, 0);
    x.write(1, 1);
    return x;
  }

  /** Client 0 has read key 0 (slot 0), client 1 has written it and committed (3), client 2, that only reads, has begun (4). */
  private static Gate batch(int keep, String law) {
    Gate x = of("client reads 0 writes 1;client reads 0 writes 0;client reads 0 1 only", law);
    x.keep(keep);
    x.begin(0);
    x.read(0, 0);
    x.begin(1);
    x.write(1, 0);
    x.commit(1);
    x.begin(2);
    return x;
  }

  public static void main(String[] args) {
    promise = 1; aNewObject();
    promise = 2; feed();
    promise = 3; end();
    promise = 4; store();
    promise = 5; law();
    promise = 6; fault();
    promise = 7; slot();
    promise = 8; seen();
    promise = 9; key();
    promise = 10; client();
    promise = 11; ticks();
    promise = 12; begin();
    promise = 13; read();
    promise = 14; write();
    promise = 15; commit();
    promise = 16; abort();
    promise = 17; keep();
    promise = 18; dooms();
    promise = 19; pivots();
    promise = 20; cut();
    promise = 21; history();
    promise = 22; version();
    promise = 23; serial();
    promise = 24; clash();
    promise = 25; apart();
    promise = 26; rounds();
    promise = 27; cover();
    promise = 28; who();
    promise = 29; likely();
    promise = 30; ask();
    promise = 31; pairs();
    promise = 32; rests();
    promise = 33; odds();
    promise = 34; most();
    promise = 35; running();
    promise = 36; finished();
    promise = 37; hot();
    promise = 38; twins();
    promise = 39; trial();
    promise = 40; span();
    promise = 41; led();
    promise = 42; log();
    promise = 43; seed();
    promise = 44; undo();
    promise = 45; image();
    promise = 46; back();
    promise = 47; count();
    System.out.println("promises: " + done + " answers, " + wrong + " wrong");
    if (wrong != 0) System.exit(1);
  }

  private static void aNewObject() {
    Gate x = new Gate();
    int[] counts = {0, 0, 0, 0, NONE, 0, 3, 0, 0, 0, 0, 0, 0, 0};
    for (int i = 0; i < counts.length; i++) due(x.count(i), counts[i], "count(" + i + ")");
    due(x.fault(), NONE);
    due(x.seed(5), 1);
    due(x.undo(), false);
    due(x.back(), false);
    for (int i = 0; i < 8; i++) due(x.slot(i, 0), 0);
    for (int i = 0; i < 10; i++) due(x.key(i, 0) + x.key(i, 1) + x.key(i, 2) + x.key(i, 3), 0);
    due(x.end(1), false);
  }

  private static void feed() {
    Gate x = new Gate();
    // "keep 5;purse 321;    ", of each number the highest byte first
    due(x.feed(0x6b656570, 0x20353b70, 0x75727365, 0x20333231, 0x20202020), 20);
    due(x.store(), 1);
    due(x.count(6), 5);
    due(x.count(7), 321);
    for (int i = 1; i <= 20; i++) due(x.feed(-1, i, i, i, i), 20 * i);
    due(x.feed(1, 2, 3, 4, 5), NONE);
    due(x.end(400), true);
    due(x.end(381), true);
    due(x.feed(1, 2, 3, 4, 5), NONE);
    due(x.end(380), true);
    due(x.feed(1, 2, 3, 4, 5), 400);
    tell(x, 255, 128, 1);
    wrongAt(x, 0);
  }

  private static void wrongAt(Gate x, int at) {
    fails(ARGUMENT, x::store);
    due(x.fault(), at);
  }

  private static void end() {
    Gate x = new Gate();
    due(x.end(0), true);
    due(x.end(-1), false);
    x.feed(0x6b656570, 0x20313131, 0, 0, 0);
    due(x.end(21), false);
    due(x.end(-20), false);
    due(x.end(20), true);
    due(x.end(6), true);
    due(x.end(7), false);
    due(x.store(), 1);
    due(x.count(6), 1);
    due(x.end(1), false);
  }

  private static void store() {
    Gate x = new Gate();
    tell(x, "  client reads 1 2 1 writes 3  ;client only;version 4 7;keep 0;purse 999;client reads0writes 1 2;version 4 1  ");
    due(x.store(), 1);
    due(x.fault(), NONE);
    due(x.count(0), 3);
    due(x.client(0, 0), 6);
    due(x.client(0, 1), 8);
    due(x.client(0, 2), 0);
    due(x.client(1, 2), 1);
    due(x.client(2, 1), 6);
    due(x.key(4, 0), 8);
    due(x.count(6), 0);
    due(x.count(7), 999);
    tell(x, "purse 5");
    due(x.store(), 2);
    due(x.count(7), 5);
    tell(x, "   ");
    due(x.store(), 3);
    tell(x, repeated("keep 1;", 13) + "version 9 999");
    due(x.store(), 4);
    wrongStore(x, repeated("keep 2;", 14) + "keep 2", 98);
    wrongStore(x, repeated("keep 2;", 14) + "  client", 100);
    wrongStore(x, repeated("keep 2;", 14), 98);
    due(x.count(6), 1);
    wrongStore(x, "client;client; client", 15);
    due(x.count(0), 3);
    wrongStore(x, "client reads 1 2 3 4 5 6 7 8 9 0 1", 33);
    wrongStore(x, "client writes 1 2 3 4 5 6 7 8 9 0  777", 35);
    wrongStore(x, "client reads", 12);
    wrongStore(x, "client reads  ", 14);
    wrongStore(x, "client reads 10", 13);
    wrongStore(x, "client reads 001 0001", 17);
    wrongStore(x, "client reads writes 1", 13);
    wrongStore(x, "client writes 1 reads 1", 16);
    wrongStore(x, "client writes 1  only", 17);
    wrongStore(x, "client only reads 1", 12);
    wrongStore(x, "client only only", 12);
    wrongStore(x, "clients", 0);
    wrongStore(x, "client onlyx", 7);
    wrongStore(x, "client Only", 7);
    wrongStore(x, "client reads 1,2", 14);
    wrongStore(x, "version 3", 9);
    wrongStore(x, "version 3 ;", 10);
    wrongStore(x, "version 3 1000", 10);
    wrongStore(x, "version 3 1 1", 12);
    wrongStore(x, "keep", 4);
    wrongStore(x, "keep 7", 5);
    wrongStore(x, "purse 1000", 6);
    wrongStore(x, "keep 5;;keep 5", 7);
    wrongStore(x, ";keep 5", 0);
    wrongStore(x, "keep 5 ; ", 9);
    wrongStore(x, "blame 1", 0);
    due(x.count(6), 1);
    due(x.count(3), 4);
    due(x.key(3, 0), 0);
    versionsAreRaised();
    twelveTexts();
    aTextTidies();
  }

  private static void versionsAreRaised() {
    Gate x = of(repeated("version 0 999;", 9) + "version 0 999");
    due(x.key(0, 0), 9990);
    tell(x, "version 0 8");
    x.store();
    due(x.key(0, 0), 9998);
    tell(x, "version 0 999;client writes 0 1");
    x.store();
    due(x.key(0, 0), 9999);
    x.begin(0);
    x.write(0, 0);
    wrongStore(x, "keep 1;version  0 1", 16);
    tell(x, "version 1 2");
    due(x.store(), 4);
    due(x.commit(0), 2);
    due(x.key(0, 0), 9999);
    due(x.version(0, 0, true), 9999);
    tell(x, "version 0 1");
    due(x.store(), 5);
  }

  private static void twelveTexts() {
    Gate x = new Gate();
    for (int i = 1; i <= 12; i++) {
      tell(x, "version 2 1");
      due(x.store(), i);
    }
    tell(x, "version 2 1");
    fails(UNSUPPORTED, x::store);
    due(x.end(1), false);
    due(x.key(2, 0), 12);
    due(x.count(3), 12);
    wrongStore(x, "version 2 x", 10);
    due(x.end(1), false);
    tell(x, "blame 1");
    due(x.law(), 1);
  }

  private static void aTextTidies() {
    Gate x = of("client writes 0;client writes 1");
    x.begin(0);
    x.begin(1);
    x.write(1, 1);
    x.commit(1);
    due(x.finished(), 2);
    tell(x, "keep 0");
    x.store();
    due(x.finished(), 0);
    due(x.key(1, 2), 3);
    due(x.log(0, 2), 5);
    due(x.count(13), 0);
  }

  private static void law() {
    Gate x = new Gate();
    tell(x, "");
    due(x.law(), 0);
    due(x.count(4), 0);
    tell(x, " blame 40 ;spare 0;pay 7 if only or not pivot and (age+1<2+3)");
    due(x.law(), 3);
    due(x.count(4), 3);
    tell(x, repeated("pay 1;", 11) + "pay 1");
    due(x.law(), 12);
    lawsAreWrong();
    // slot 1 of client 0 (slot 0 only reads): age 0, reads 2, writes 1, retries 0, stamp 2, neither pivot nor retried
    blame("", 10);
    blame("blame 5", 15);
    blame("blame 5;blame 40;spare 3", 52);
    blame("spare 9", 1);
    blame("spare 40;blame 20", 0);
    blame("pay 5", 10);
    blame("blame 5 if slot<1", 10);
    blame("blame 5 if slot>0 and slot<2", 15);
    blame("blame 5 if client<1", 15);
    blame("blame 5 if age<1", 15);
    blame("blame 5 if age>0", 10);
    blame("blame 5 if reads>1 and reads<3", 15);
    blame("blame 5 if writes>0 and writes<2", 15);
    blame("blame 5 if retries<1", 15);
    blame("blame 5 if stamp>1 and stamp<3", 15);
    blame("blame 5 if only", 10);
    blame("blame 5 if pivot", 10);
    blame("blame 5 if retried", 10);
    blame("blame 5 if not retried", 15);
    blame("blame 5 if not not retried", 10);
    blame("blame 5 if reads+writes+1>3", 15);
    blame("blame 5 if 999+reads+999<slot+999+999+1", 10);
    blame("blame 5 if 999+reads+999<slot+999+999+2", 15);
    blame("blame 5 if not only and only or not only", 15);
    blame("blame 5 if not only or only and only", 15);
    blame("blame 5 if (not only or only) and only", 10);
    blame("blame 5 if not (only and not only) and not only", 15);
    blame("blame 5 if not (only or not only)", 10);
    blame("blame 5 if only or only or age<1", 15);
    blame("blame 5 if ((((((age<1))))))", 15);
    blame("blame 5 if (age<1) and (((((age<1)))))", 15);
    blame("blame 5 if " + repeated("only or age<1 and (", 6) + "only or age<1 and 1+1<3" + repeated(")", 6), 15);
    blame("blame 5 if " + repeated("only or age<1 and (", 6) + "only or age<1 and 1+1<2" + repeated(")", 6), 10);
    blame("blame 5 if not(not(not(only or age<1 and only)))", 15);
    // Each tick of a lone client is a stamp more: behind 101 of them stamp is 1 again, age is not.
    Gate old = of("client", "blame 5 if stamp>0 and stamp<2;blame 20 if age>99;blame 40 if stamp>1");
    old.ticks(60);
    old.ticks(41);
    due(old.slot(0, 10), 15);
    tell(old, "client");
    old.store();
    for (int i = 0; i < 50; i++) old.commit(old.begin(1));
    due(old.count(5), 201);
    due(old.slot(0, 10), 35);
    Gate y = of("client;client only", "pay 7 if only;pay 30 if not only;blame 1");
    y.begin(0);
    y.begin(1);
    due(y.slot(0, 11), 31);
    due(y.slot(1, 11), 8);
    tell(y, "pay 2");
    y.law();
    due(y.slot(0, 11), 3);
    due(y.slot(0, 10), 10);
  }

  private static void lawsAreWrong() {
    wrongLaw(repeated("pay 1;", 12) + "pay 1", 72);
    wrongLaw(repeated("pay 1;", 12), 72);
    wrongLaw("blame", 5);
    wrongLaw("blame 41", 6);
    wrongLaw("blame 0041", 6);
    wrongLaw("blames 1", 0);
    wrongLaw("client", 0);
    wrongLaw("blame 1 only", 8);
    wrongLaw("blame 1 if", 10);
    wrongLaw("blame 1 if  ", 12);
    wrongLaw("blame 1 if age", 14);
    wrongLaw("blame 1 if age+", 15);
    wrongLaw("blame 1 if age <", 16);
    wrongLaw("blame 1 if age = 3", 15);
    wrongLaw("blame 1 if age < 3 < 4", 19);
    wrongLaw("blame 1 if age < 1000", 17);
    wrongLaw("blame 1 if only < 3", 16);
    wrongLaw("blame 1 if only)", 15);
    wrongLaw("blame 1 if (only", 16);
    wrongLaw("blame 1 if (only;", 16);
    wrongLaw("blame 1 if (only and) pivot", 20);
    wrongLaw("blame 1 if ()", 12);
    wrongLaw("blame 1 if not", 14);
    wrongLaw("blame 1 if notonly", 11);
    wrongLaw("blame 1 if and", 11);
    wrongLaw("blame 1 if only or", 18);
    wrongLaw("blame 1 if only pivot", 16);
    wrongLaw("blame 1 if (age) < 3", 15);
    wrongLaw("blame 1 if (((((((only)))))))", 17);
    wrongLaw("blame 1 if not(not(not(not only)))", 23);
    wrongLaw("blame 1;spare", 13);
    wrongLaw("blame 1;", 8);
    wrongLaw("blame 1 # 2", 8);
  }

  private static void fault() {
    Gate x = new Gate();
    due(x.fault(), NONE);
    wrongStore(x, "keep 9", 5);
    tell(x, "pay 1");
    x.law();
    due(x.fault(), NONE);
    tell(x, "pay 1;foo");
    fails(ARGUMENT, x::law);
    due(x.fault(), 6);
    tell(x, 20, 0);
    fails(ARGUMENT, x::who);
    due(x.fault(), 6);
    x.image();
    x.back();
    due(x.fault(), 6);
    tell(x, "");
    x.store();
    due(x.fault(), NONE);
  }

  private static void slot() {
    Gate x = skewed();
    int[] zero = {1, 0, 1, 0, 3, 3, 1, 2, 2, 0, 10, 1, 0, 0, 0, 0};
    int[] one = {1, 1, 2, 0, 3, 3, 2, 1, 1, 0, 10, 1, 0, 0, 0, 0};
    for (int i = 0; i < 16; i++) {
      due(x.slot(0, i), zero[i], "slot(0, " + i + ")");
      due(x.slot(1, i), one[i], "slot(1, " + i + ")");
      due(x.slot(2, i), i == 0 ? 0 : NONE, "slot(2, " + i + ")");
    }
    fails(INDEX, () -> x.slot(-1, 0));
    fails(INDEX, () -> x.slot(8, 99));
    fails(ELEMENT, () -> x.slot(0, -1));
    fails(ELEMENT, () -> x.slot(7, 16));
    Gate y = batch(3, "");
    int[] finished = {2, 1, 2, 3, 0, 0, 1, 0, 1, 0, 10, 1, 0, 0, 0, 0};
    for (int i = 0; i < 16; i++) due(y.slot(1, i), finished[i], "slot(1, " + i + ") of the finished one");
    due(y.slot(0, 9), 3);
    due(y.slot(2, 14), 0);
    y.write(0, 1);
    y.commit(0);
    due(y.slot(2, 15), 1);
    due(y.slot(2, 14), 0);
    Gate z = batch(0, "");
    due(z.slot(0, 12), 3);
    due(z.slot(0, 9), 3);
    due(z.slot(0, 7), 0);
    z.abort(0);
    due(z.slot(1, 14), 1);
    due(z.slot(1, 15), 0);
  }

  private static void seen() {
    Gate x = of("client reads 0 writes 0;client;version 3 7");
    due(x.seen(0, 3), NONE);
    x.begin(1);
    x.begin(0);
    x.write(1, 0);
    x.commit(1);
    due(x.seen(0, 3), 7);
    due(x.seen(0, 0), 0);
    due(x.seen(1, 0), 0);
    due(x.key(0, 0), 1);
    fails(INDEX, () -> x.seen(8, 0));
    fails(INDEX, () -> x.seen(-1, 0));
    fails(INDEX, () -> x.seen(0, 10));
    fails(INDEX, () -> x.seen(2, -1));
  }

  private static void key() {
    Gate x = batch(0, "");
    due(x.key(0, 0), 1);
    due(x.key(0, 1), 0);
    due(x.key(0, 2), 3);
    due(x.key(0, 3), 0);
    due(x.key(0, 4), NONE);
    x.write(0, 1);
    due(x.key(1, 4), 0);
    x.commit(0);
    due(x.key(1, 4), NONE);
    due(x.key(0, 1), 5);
    due(x.key(1, 2), 5);
    due(x.key(1, 3), 3);
    due(x.key(9, 0), 0);
    fails(INDEX, () -> x.key(10, 0));
    fails(INDEX, () -> x.key(-1, 7));
    fails(ELEMENT, () -> x.key(0, 5));
    fails(ELEMENT, () -> x.key(0, -1));
  }

  private static void client() {
    Gate x = of("client reads 3 5 writes 4 2;client reads 2 only;client");
    due(x.client(0, 0), 40);
    due(x.client(0, 1), 20);
    due(x.client(0, 2), 0);
    due(x.client(1, 2), 1);
    due(x.client(0, 5), NONE);
    int[] steps = {0, 103, 105, 202, 204, 300};
    for (int i = 0; i < 6; i++) {
      due(x.client(0, 6), steps[i]);
      if (i == 0) x.begin(0);
      if (i > 0 && i < 3) x.read(0, steps[i] - 100);
      if (i > 2 && i < 5) x.write(0, steps[i] - 200);
    }
    due(x.client(0, 5), 0);
    x.commit(0);
    x.begin(2);
    x.commit(0);
    x.begin(2);
    x.commit(0);
    due(x.client(0, 4), 1);
    due(x.client(0, 8), 33);
    due(x.client(2, 8), 66);
    due(x.client(1, 8), 0);
    x.begin(1);
    x.abort(0);
    due(x.client(1, 3), 1);
    due(x.client(0, 7), 0);
    due(x.client(1, 7), 1);
    due(x.client(2, 7), 0);
    fails(INDEX, () -> x.client(3, 0));
    fails(INDEX, () -> x.client(-1, 9));
    fails(ELEMENT, () -> x.client(0, 9));
    fails(ELEMENT, () -> x.client(0, -1));
  }

  private static void ticks() {
    // Of two clients the draws from seed 1 choose 0 0 1 1 1 1 0 1 0 0.
    Gate x = of("client reads 0;client writes 1");
    due(x.ticks(5), 1);
    due(x.slot(1, 0), 2);
    due(x.key(1, 0), 1);
    due(x.count(5), 3);
    due(x.ticks(5), 1);
    due(x.count(5), 6);
    due(x.slot(0, 0), 2);
    due(x.slot(1, 1), 0);
    due(x.slot(1, 2), 6);
    due(x.slot(1, 4), 1);
    due(x.slot(2, 6), 2);
    due(x.log(0, 2), 6);
    due(x.count(13), 2);
    fails(ARGUMENT, () -> x.ticks(0));
    fails(ARGUMENT, () -> x.ticks(61));
    fails(ARGUMENT, () -> x.ticks(-1));
    due(x.count(13), 2);
    Gate none = new Gate();
    due(none.ticks(60), 0);
    due(none.seed(1), 1);
    due(none.count(13), 1);
    // With one client each tick is its own: begin, read, write, commit, and again.
    Gate one = of("client reads 7 writes 7");
    due(one.ticks(60), 15);
    due(one.key(7, 0), 15);
    due(one.count(7), 15);
    // A step that waits does nothing: key 1 is client 0's, and from this seed the draw chooses client 1.
    Gate waits = of("client writes 1;client writes 1");
    waits.begin(0);
    waits.write(0, 1);
    waits.begin(1);
    due(waits.client(1, 6), 201);
    int seed = 1;
    while ((1103515245 * seed + 12345 >>> 16) % 2 == 0) seed++;
    waits.seed(seed);
    due(waits.ticks(1), 0);
    due(waits.count(5), 2);
    due(waits.slot(1, 6), 0);
    due(waits.client(1, 6), 201);
    due(waits.client(0, 6), 300);
  }

  private static void begin() {
    Gate x = of("client;client;client;client;client;keep 6");
    due(x.begin(3), 0);
    due(x.begin(0), 1);
    due(x.slot(0, 2), 1);
    due(x.slot(1, 2), 2);
    fails(STATE, () -> x.begin(3));
    fails(INDEX, () -> x.begin(5));
    fails(INDEX, () -> x.begin(-1));
    due(x.count(5), 2);
    // Slot 0 goes on running, so what finishes behind it is kept, up to six; with one more running none is free.
    for (int i = 0; i < 6; i++) {
      due(x.commit(x.client(0, 5)), 3 + 2 * i);
      due(x.begin(0), 2 + i);
    }
    fails(STATE, () -> x.begin(1));
    due(x.count(2), 6);
    x.abort(7);
    due(x.begin(1), 7);
    due(x.client(0, 6), 0);
    due(x.running(), 129);
  }

  private static void read() {
    Gate x = of("client reads 0 writes 0;client reads 0 only;version 0 5");
    x.begin(0);
    due(x.read(0, 0), 5);
    due(x.slot(0, 5), 1);
    x.write(0, 0);
    due(x.read(0, 0), 6);
    x.write(0, 3);
    due(x.read(0, 3), 1);
    due(x.slot(0, 4), 9);
    due(x.slot(0, 5), 1);
    x.begin(1);
    due(x.read(1, 0), 5);
    due(x.slot(1, 7), 1);
    fails(INDEX, () -> x.read(8, 0));
    fails(INDEX, () -> x.read(5, 10));
    fails(STATE, () -> x.read(5, 9));
    x.abort(0);
    due(x.slot(1, 14), 1);
    due(x.read(1, 4), 0);
    due(x.slot(1, 4), 17);
    due(x.slot(1, 5), 1);
    x.commit(1);
    fails(STATE, () -> x.read(1, 0));
    // A danger met by reading: the reader that only reads is behind a finished pivot.
    Gate spoilt = batch(3, "");
    spoilt.write(0, 1);
    spoilt.commit(0);
    due(spoilt.read(2, 1), NONE);
    due(spoilt.log(1, 2), 3);
    due(spoilt.client(2, 3), 1);
    // The same, summarised: LAST OUT of key 1 is 3, below the begin of the reader, 4.
    Gate summed = batch(0, "");
    summed.write(0, 1);
    summed.commit(0);
    due(summed.read(1, 1), NONE);
    due(summed.log(0, 2), 1);
    due(summed.log(0, 3), 1);
    due(summed.led(2, true), 5);
  }

  private static void write() {
    Gate x = of("client reads 0 writes 0;client reads 0 writes 0;client reads 0 only");
    x.begin(0);
    x.begin(1);
    x.begin(2);
    due(x.write(0, 0), true);
    due(x.write(0, 0), true);
    fails(STATE, () -> x.write(1, 0));
    fails(STATE, () -> x.write(2, 5));
    fails(STATE, () -> x.write(3, 5));
    fails(INDEX, () -> x.write(-1, 0));
    fails(INDEX, () -> x.write(1, 10));
    due(x.slot(1, 6), 0);
    x.commit(0);
    due(x.write(1, 0), false);
    due(x.log(0, 2), 2);
    due(x.client(1, 3), 1);
    due(x.slot(1, 0), 0);
    // The reader that only reads is ahead of a running pivot; both have the same blame, so the pivot falls.
    Gate pivot = batch(3, "");
    pivot.read(2, 1);
    due(pivot.write(0, 1), false);
    due(pivot.running(), 4);
    Gate ahead = batch(3, "blame 5 if only");
    ahead.read(2, 1);
    due(ahead.write(0, 1), true);
    due(ahead.running(), 1);
    due(ahead.client(2, 3), 1);
    Gate spared = batch(3, "spare 1 if pivot");
    spared.read(2, 1);
    due(spared.write(0, 1), true);
    // LAST READ above BEGAN makes INMAX; with FIRST at most that none need be ahead.
    Gate kept = of("client reads 0 writes 1;client reads 1 writes 0;keep 0");
    kept.begin(0);
    kept.read(0, 0);
    kept.begin(1);
    kept.read(1, 1);
    kept.write(1, 0);
    kept.commit(1);
    due(kept.key(1, 1), 3);
    due(kept.slot(0, 12), 3);
    due(kept.write(0, 1), false);
    due(kept.log(0, 2), 3);
    due(kept.slot(0, 0), 0);
  }

  private static void commit() {
    Gate x = skewed();
    due(x.commit(0), 3);
    due(x.running() + x.finished(), 0);
    due(x.client(1, 3), 1);
    due(x.client(0, 4), 1);
    due(x.count(7), 1);
    int[][] log = {{3, 0, 6, 0}, {3, 1, 3, 1}, {3, 0, 0, 0}};
    for (int ago = 0; ago < 3; ago++) for (int i = 0; i < 4; i++) due(x.log(ago, i), log[ago][i]);
    fails(STATE, () -> x.commit(0));
    fails(INDEX, () -> x.commit(8));
    fails(INDEX, () -> x.commit(-1));
    // PAY as it was ahead of the commit: then the client was retried, and the stamp 2.
    Gate paid = of("client writes 3;purse 999", "pay 20 if retried;pay 10 if stamp>2;pay 5 if stamp<3");
    paid.begin(0);
    paid.abort(0);
    paid.begin(0);
    paid.write(0, 3);
    due(paid.commit(0), 3);
    due(paid.count(7), 1025);
    due(paid.client(0, 3), 0);
    due(paid.key(3, 0), 1);
    Gate spoilt = batch(3, "");
    spoilt.write(0, 1);
    due(spoilt.slot(2, 15), 0);
    due(spoilt.commit(0), 5);
    due(spoilt.slot(2, 15), 1);
    due(spoilt.finished(), 1);
  }

  private static void abort() {
    Gate x = batch(3, "");
    due(x.abort(0), 0);
    due(x.client(0, 3), 1);
    due(x.finished(), 0);
    due(x.count(8), 0);
    due(x.log(0, 2), 6);
    due(x.log(1, 2), 4);
    due(x.log(1, 0), 4);
    fails(STATE, () -> x.abort(0));
    fails(INDEX, () -> x.abort(8));
    fails(INDEX, () -> x.abort(-1));
    due(x.led(0, false), 0);
    Gate many = of("client");
    for (int i = 0; i < 101; i++) {
      many.begin(0);
      many.abort(0);
    }
    due(many.client(0, 3), 99);
  }

  private static void keep() {
    Gate x = of("client;client writes 1 2;client");
    x.begin(0);
    for (int i = 0; i < 3; i++) {
      x.begin(1);
      x.write(i + 1, i + 1);
      x.commit(i + 1);
    }
    due(x.finished(), 14);
    due(x.keep(1), 3);
    due(x.finished(), 8);
    due(x.key(1, 2), 3);
    due(x.key(2, 2), 5);
    due(x.key(3, 2), 0);
    due(x.log(0, 2), 5);
    due(x.log(0, 3), 2);
    due(x.keep(6), 1);
    due(x.keep(0), 6);
    due(x.key(3, 2), 7);
    fails(ARGUMENT, () -> x.keep(7));
    fails(ARGUMENT, () -> x.keep(-1));
    due(x.count(6), 0);
  }

  private static void dooms() {
    Gate x = skewed();
    due(x.dooms(0, 2, 99), 2);
    due(x.dooms(1, 2, -5), 1);
    due(x.dooms(0, 0, 5), 0);
    due(x.dooms(0, 1, 1), 0);
    due(x.count(5), 2);
    due(x.count(12), 0);
    fails(INDEX, () -> x.dooms(8, 0, 0));
    fails(INDEX, () -> x.dooms(0, 0, 10));
    fails(INDEX, () -> x.dooms(0, 1, -1));
    fails(ARGUMENT, () -> x.dooms(5, 3, 0));
    fails(ARGUMENT, () -> x.dooms(0, -1, 0));
    fails(STATE, () -> x.dooms(5, 2, 0));
    Gate spoilt = batch(3, "");
    due(spoilt.dooms(2, 1, 5), 0);
    spoilt.read(2, 1);
    due(spoilt.dooms(0, 1, 1), 1);
    due(spoilt.dooms(0, 1, 0), 1);
    due(spoilt.dooms(0, 2, 1), 0);
    due(spoilt.count(13), 8);
    Gate summed = batch(0, "");
    summed.write(0, 1);
    summed.commit(0);
    due(summed.dooms(1, 0, 1), 2);
    due(summed.dooms(1, 0, 0), 0);
  }

  private static void pivots() {
    Gate x = skewed();
    due(x.pivots(), 3);
    Gate y = batch(3, "");
    due(y.pivots(), 0);
    Gate z = batch(0, "blame 5 if only");
    due(z.slot(0, 12), 3);
    due(z.pivots(), 0);
    z.read(1, 1);
    z.begin(1);
    z.write(2, 0);
    due(z.pivots(), 0);
    due(new Gate().pivots(), 0);
    // A pivot that has finished: of the three in a row the middle one commits first.
    Gate row = of("client reads 1;client reads 2 writes 1;client writes 2");
    row.begin(0);
    row.begin(1);
    row.begin(2);
    row.read(0, 1);
    row.write(1, 1);
    row.read(1, 2);
    row.write(2, 2);
    due(row.pivots(), 2);
    row.commit(1);
    due(row.pivots(), 2);
  }

  private static void cut() {
    due(new Gate().cut(), 0);
    Gate x = skewed();
    due(x.cut(), 1);
    // 0 to 1 to 2: without the least of the three that helps, 0, 1 has no edge to it.
    Gate row = of("client reads 1;client reads 2 writes 1;client writes 2;client reads 1");
    row.begin(0);
    row.begin(1);
    row.begin(2);
    row.read(0, 1);
    row.write(1, 1);
    row.read(1, 2);
    row.write(2, 2);
    due(row.cut(), 1);
    // With two ahead of it and one behind, the pivot alone (2) comes ahead of the last one (4).
    row.begin(3);
    row.read(3, 1);
    due(row.cut(), 2);
    row.commit(2);
    due(row.cut(), 0);
    Gate kept = of("client reads 1;client reads 2 writes 1;client writes 2", "");
    kept.begin(0);
    kept.begin(1);
    kept.begin(2);
    kept.write(1, 1);
    kept.read(1, 2);
    kept.write(2, 2);
    kept.read(0, 1);
    kept.commit(0);
    due(kept.finished(), 1);
    due(kept.cut(), 2);
  }

  private static Gate twoCommits() {
    Gate x = of("client reads 0 writes 1;client reads 1 writes 2;version 1 4");
    x.begin(0);
    x.begin(1);
    x.read(0, 0);
    x.read(1, 1);
    x.write(0, 1);
    x.write(1, 2);
    x.commit(0);
    x.commit(1);
    return x;
  }

  private static void history() {
    Gate x = twoCommits();
    int[][] rows = {{0, 3, 1, 2}, {1, 4, 2, 4}};
    for (int row = 0; row < 2; row++) for (int i = 0; i < 4; i++) due(x.history(row, i), rows[row][i]);
    due(x.history(2, 0), NONE);
    due(x.history(-1, 3), NONE);
    fails(ELEMENT, () -> x.history(0, 4));
    fails(ELEMENT, () -> x.history(-1, -1));
    Gate many = of("client writes 0");
    many.ticks(42);
    due(many.count(9), 12);
    due(many.history(0, 1), 6);
    due(many.history(11, 1), 28);
    due(many.version(0, 0, true), 3);
    due(many.version(11, 0, true), 14);
  }

  private static void version() {
    Gate x = twoCommits();
    due(x.version(0, 0, false), 0);
    due(x.version(0, 1, false), NONE);
    due(x.version(0, 1, true), 5);
    due(x.version(0, 0, true), NONE);
    due(x.version(1, 1, false), 4);
    due(x.version(1, 2, true), 1);
    due(x.version(2, 0, false), NONE);
    due(x.version(-1, 0, true), NONE);
    fails(INDEX, () -> x.version(0, 10, true));
    fails(INDEX, () -> x.version(9, -1, false));
  }

  private static void serial() {
    due(new Gate().serial(0), NONE);
    // Row 1 saw key 1 as it was ahead of row 0's write.
    Gate x = twoCommits();
    due(x.serial(0), 1);
    due(x.serial(1), 0);
    due(x.serial(2), NONE);
    due(x.serial(-1), NONE);
    Gate y = of("client writes 0;client reads 0");
    y.begin(0);
    y.write(0, 0);
    y.commit(0);
    y.begin(1);
    y.read(0, 0);
    y.commit(0);
    y.begin(0);
    y.write(0, 0);
    y.commit(0);
    for (int i = 0; i < 3; i++) due(y.serial(i), i);
  }

  private static final String FIVE = "client reads 0 1 writes 1;client reads 0 1 writes 0;client reads 0 1 2 only;client writes 5;client reads 3 writes 4";

  private static void clash() {
    Gate x = of(FIVE);
    due(x.clash(0, 1), true);
    due(x.clash(1, 0), true);
    due(x.clash(2, 0), true);
    due(x.clash(3, 4), false);
    fails(INDEX, () -> x.clash(5, 5));
    fails(INDEX, () -> x.clash(0, -1));
    fails(ARGUMENT, () -> x.clash(4, 4));
    Gate y = of("client reads 1;client reads 1 only;client writes 1;client writes 1");
    due(y.clash(0, 1), false);
    due(y.clash(0, 2), true);
    due(y.clash(2, 3), true);
  }

  private static void apart() {
    due(new Gate().apart(), 0);
    due(of(FIVE).apart(), 25);
    due(of("client writes 1;client writes 1").apart(), 1);
    due(of("client reads 1;client writes 1;client reads 1").apart(), 5);
  }

  private static void rounds() {
    due(new Gate().rounds(), 0);
    due(of(FIVE).rounds(), 3);
    due(of("client").rounds(), 1);
    due(of("client writes 1;client writes 1;client writes 1;client writes 1;client writes 1").rounds(), 5);
    // A path 0 - 2 - 1 - 3: 0 and 1 can share a round, then two are enough.
    Gate x = of("client writes 0;client writes 1 2;client reads 0 1;client reads 2");
    due(x.rounds(), 2);
    int[] rounds = {0, 0, 1, 1};
    for (int i = 0; i < 4; i++) due(x.client(i, 7), rounds[i]);
    // A path 0 - 3 - 2 - 1: the first fit, 0 and 1 together, would need a third round.
    Gate y = of("client writes 0;client writes 1;client reads 1 writes 2;client reads 0 2");
    due(y.rounds(), 2);
    int[] other = {0, 1, 0, 1};
    for (int i = 0; i < 4; i++) due(y.client(i, 7), other[i]);
  }

  private static void cover() {
    due(new Gate().cover(), 0);
    due(of("client;client only").cover(), 0);
    due(of(FIVE).cover(), 41);
    due(of("client reads 9;client writes 9 3;client reads 3 8 writes 9").cover(), 512);
    due(of("client reads 1 2;client writes 2 3").cover(), 4);
  }

  private static void who() {
    Gate x = of(FIVE);
    tell(x, "");
    due(x.who(), 31);
    tell(x, 11, 1, 11, 1);
    due(x.who(), 1);
    due(x.end(1), false);
    tell(x, 0, 1, 10, 1);
    due(x.who(), 7);
    tell(x, 15, 1, 15, 1, 0, 0, 0, 0, 19, 0);
    due(x.who(), 8);
    int[][] bad = {{20, 0}, {0, 2}, {0}, {0, 1, 0}, new int[42], {255, 1}};
    for (int[] bytes : bad) {
      tell(x, bytes);
      fails(ARGUMENT, x::who);
      due(x.end(1), false);
    }
    tell(x, new int[40]);
    due(x.who(), 24);
    due(new Gate().who(), 0);
  }

  private static void likely() {
    Gate x = of(FIVE);
    tell(x, "");
    due(x.likely(), 0);
    tell(x, 0, 1, 10, 1);
    due(x.likely(), 1);
    due(x.end(1), false);
    // Only one that fits is likely: with two wrong rows each there is none.
    tell(x, 19, 1, 19, 1, 13, 1, 14, 1);
    due(x.likely(), NONE);
    tell(x, 19, 1, 3, 1, 14, 1);
    due(x.likely(), 4);
    tell(x, 19, 1, 3, 1);
    due(x.likely(), 4);
    tell(x, 19, 1);
    due(x.likely(), 0);
    Gate blank = of("client;client;client");
    tell(blank, 11, 1, 3, 1);
    due(blank.likely(), NONE);
    tell(blank, 11, 1, 3, 0);
    due(blank.likely(), 0);
    tell(x, 20, 1);
    fails(ARGUMENT, x::likely);
    due(x.end(1), false);
    tell(x, 5);
    fails(ARGUMENT, x::likely);
    due(new Gate().likely(), NONE);
  }

  private static void ask() {
    Gate x = of(FIVE);
    tell(x, "");
    due(x.ask(), 0);
    tell(x, 0, 1, 10, 1);
    due(x.ask(), 2);
    tell(x, 11, 1, 11, 1);
    due(x.ask(), NONE);
    due(x.end(1), false);
    tell(x, 0, 9);
    fails(ARGUMENT, x::ask);
    due(x.end(1), false);
    due(new Gate().ask(), NONE);
    due(of("client").ask(), NONE);
    due(of("client;client").ask(), 0);
    due(of("client writes 9;client;client writes 9").ask(), 19);
  }

  private static void pairs() {
    Gate x = of(FIVE);
    int[] with = {NONE, 3, 4, 1, 2};
    due(x.pairs(NONE), 8);
    for (int i = 0; i < 5; i++) due(x.pairs(i), with[i]);
    fails(INDEX, () -> x.pairs(5));
    fails(INDEX, () -> x.pairs(-2));
    due(new Gate().pairs(NONE), 0);
    Gate bare = of("client;client");
    due(bare.pairs(NONE), 0);
    due(bare.pairs(0), NONE);
    Gate all = of("client reads 1;client reads 1 2;client reads 1 2 3;client reads 4");
    due(all.pairs(NONE), 7);
    due(all.pairs(0), 1);
    due(all.pairs(3), 2);
  }

  private static void rests() {
    Gate x = of(FIVE);
    due(x.rests(0, 1), 6);
    due(x.rests(0, 3), 1);
    fails(INDEX, () -> x.rests(5, 5));
    fails(INDEX, () -> x.rests(0, -1));
    fails(ARGUMENT, () -> x.rests(3, 3));
    // By waiting client 0 loses as many as its retries: 2 as much as both going on, 3 more than that.
    for (int i = 0; i < 3; i++) {
      x.begin(0);
      x.abort(0);
      due(x.rests(0, 1), i == 0 ? 6 : i == 1 ? 6 : 2);
      due(x.rests(1, 0), i == 0 ? 6 : i == 1 ? 6 : 4);
    }
    for (int i = 0; i < 2; i++) {
      x.begin(1);
      x.abort(0);
    }
    due(x.rests(0, 1), 3);
    x.begin(1);
    x.abort(0);
    due(x.rests(0, 1), 1);
  }

  private static void odds() {
    Gate x = of("client;client;client");
    int[][] rows = {{0, 0, 10000}, {0, 1, 0}, {1, 0, 10000}, {1, 1, 3333}, {2, 1, 5555}, {2, 2, 1111}, {3, 1, 7037}, {5, 5, 41}, {5, 2, 5390}};
    for (int[] row : rows) due(x.odds(row[0], row[1]), row[2]);
    due(of("client").odds(4, 4), 10000);
    due(of("client").odds(4, 5), 0);
    due(of(FIVE).odds(2, 1), 3600);
    due(new Gate().odds(3, 0), 10000);
    due(new Gate().odds(3, 1), 0);
    fails(ARGUMENT, () -> x.odds(6, 0));
    fails(ARGUMENT, () -> x.odds(0, 6));
    fails(ARGUMENT, () -> x.odds(-1, 0));
    fails(ARGUMENT, () -> x.odds(0, -1));
  }

  private static void most() {
    Gate x = of("client;client reads 1 2 writes 2 3;client reads 7 8 9");
    due(x.most(0), 0);
    due(x.most(1), 0);
    due(x.most(2), 1);
    x.begin(2);
    x.commit(0);
    x.begin(1);
    x.abort(0);
    due(x.most(0), 2);
    due(x.most(1), 1);
    for (int what = 0; what < 3; what++) due(new Gate().most(what), NONE);
    fails(ELEMENT, () -> x.most(3));
    fails(ELEMENT, () -> x.most(-1));
  }

  private static void running() {
    Gate x = of("client;client;client");
    due(x.running(), 0);
    x.begin(1);
    x.begin(2);
    x.begin(0);
    due(x.running(), 7);
    x.commit(1);
    due(x.running(), 5);
    x.abort(0);
    due(x.running(), 4);
  }

  private static void finished() {
    Gate x = of("client;client;client");
    due(x.finished(), 0);
    x.begin(1);
    x.begin(2);
    x.begin(0);
    x.commit(2);
    x.commit(1);
    due(x.finished(), 6);
    x.commit(0);
    due(x.finished(), 0);
    int[] slots = {1, 2, 0};
    for (int i = 0; i < 3; i++) {
      due(x.log(2 - i, 2), 6);
      due(x.log(2 - i, 3), slots[i] == 1 ? 2 : slots[i] == 2 ? 1 : 0);
    }
  }

  private static void hot() {
    due(new Gate().hot(), 0);
    due(of("client;client").hot(), 0);
    due(of("client reads 3 writes 3 4;client writes 4;client reads 9").hot(), 4);
    due(of("client reads 8 2;client writes 2 8").hot(), 2);
  }

  private static void twins() {
    due(new Gate().twins(), 0);
    due(of("client;client;client only").twins(), 3);
    due(of("client reads 1 2;client reads 2 1 1;client reads 1 2 writes 1;client writes 1").twins(), 1);
  }

  private static void trial() {
    Gate x = of("client reads 0;client writes 1", "pay 4 if client>0");
    due(x.trial(0, false), 0);
    due(x.trial(5, false), 1);
    due(x.trial(5, true), 5);
    due(x.trial(10, false), 2);
    due(x.trial(10, true), 6);
    due(x.count(5), 0);
    due(x.seed(1), 1);
    due(x.count(13), 0);
    x.ticks(5);
    due(x.trial(5, false), 2);
    due(x.trial(60, false) >= 2, true);
    fails(ARGUMENT, () -> x.trial(-1, true));
    fails(ARGUMENT, () -> x.trial(61, false));
    due(new Gate().trial(60, true), 0);
  }

  private static void span() {
    Gate x = of("client reads 0;client writes 1");
    // From seeds 1 to 6 the first three of two clients' draws: all of one client commit it once.
    int least = 9;
    int greatest = 0;
    for (int seed = 1; seed <= 6; seed++) {
      int s = seed;
      int[] steps = new int[2];
      int commits = 0;
      for (int i = 0; i < 3; i++) {
        s = 1103515245 * s + 12345;
        int client = (s >>> 16 & 32767) % 2;
        steps[client]++;
        if (steps[client] == 3) commits++;
      }
      least = Math.min(least, commits);
      greatest = Math.max(greatest, commits);
    }
    due(x.span(3, false), least);
    due(x.span(3, true), greatest);
    due(x.span(0, true), 0);
    x.seed(77);
    due(x.span(3, true), greatest);
    due(x.seed(1), 77);
    due(x.count(5), 0);
    Gate one = of("client");
    due(one.span(60, true), 30);
    due(one.span(59, false), 29);
    one.ticks(2);
    due(one.span(59, false), 30);
    fails(ARGUMENT, () -> x.span(61, true));
    fails(ARGUMENT, () -> x.span(-1, false));
  }

  private static void led() {
    Gate x = skewed();
    due(x.led(1, false), 0);
    due(x.led(1, true), NONE);
    x.commit(0);
    due(x.led(1, false), 1);
    due(x.led(1, true), 3);
    due(x.led(0, false), 0);
    x.begin(1);
    x.abort(0);
    due(x.led(1, false), 1);
    fails(INDEX, () -> x.led(2, true));
    fails(INDEX, () -> x.led(-1, false));
    x.begin(0);
    x.begin(1);
    tell(x, "version 1 1");
    x.store();
    x.write(1, 1);
    due(x.led(1, false), 2);
    due(x.led(1, true), 6);
  }

  private static void log() {
    Gate x = batch(0, "");
    int[][] rows = {{3, 1, 5, 1}, {3, 1, 0, 1}};
    for (int ago = 0; ago < 2; ago++) for (int i = 0; i < 4; i++) due(x.log(ago, i), rows[ago][i]);
    due(x.log(2, 0), NONE);
    due(x.log(-1, 0), NONE);
    fails(ELEMENT, () -> x.log(0, 4));
    fails(ELEMENT, () -> x.log(99, -1));
    Gate many = of("client");
    many.ticks(60);
    many.ticks(2);
    due(many.count(12), 60);
    due(many.log(0, 2), 6);
    due(many.log(59, 2), 0);
    due(many.log(59, 0), 4);
    due(many.log(60, 0), NONE);
  }

  private static void seed() {
    Gate x = of("client reads 0;client writes 1");
    due(x.seed(Integer.MIN_VALUE), 1);
    due(x.seed(1), Integer.MIN_VALUE);
    x.ticks(1);
    due(x.seed(1), 1103527590);
    x.ticks(1);
    // The same draw again: client 0, that has begun, reads.
    due(x.slot(0, 4), 1);
    due(x.count(13), 2);
  }

  private static void undo() {
    Gate x = skewed();
    x.image();
    x.commit(0);
    x.seed(99);
    due(x.undo(), true);
    due(x.running(), 3);
    due(x.key(0, 0), 0);
    due(x.count(5), 2);
    due(x.count(8), 2);
    due(x.count(9) + x.count(12) + x.count(7), 0);
    due(x.seed(1), 1);
    for (int i = 8; i > 0; i--) {
      due(x.count(13), i);
      due(x.undo(), true);
    }
    due(x.undo(), false);
    due(x.running(), 0);
    for (int i = 0; i < 13; i++) x.keep(i % 7);
    due(x.count(13), 12);
    for (int i = 0; i < 12; i++) due(x.undo(), true);
    due(x.undo(), false);
    due(x.count(6), 0);
    x.ticks(20);
    x.ticks(20);
    int stamp = x.count(5);
    due(x.undo(), true);
    due(x.count(5) < stamp, true);
    tell(x, "keep 9");
    fails(ARGUMENT, x::store);
    due(x.count(13), 1);
    tell(x, "");
    x.law();
    due(x.count(13), 0);
    x.ticks(1);
    tell(x, "");
    x.store();
    due(x.undo(), false);
    x.ticks(1);
    fails(ARGUMENT, () -> x.ticks(0));
    due(x.count(13), 1);
    due(x.back(), true);
    due(x.undo(), false);
    x.abort(0);
    x.feed(1, 2, 3, 4, 5);
    due(x.undo(), true);
    due(x.end(20), true);
    due(x.running(), 3);
  }

  private static void image() {
    Gate x = skewed();
    x.image();
    due(x.count(13), 8);
    x.commit(0);
    x.image();
    due(x.undo(), true);
    due(x.back(), true);
    due(x.count(5), 3);
    due(x.back(), true);
    due(x.count(5), 3);
  }

  private static void back() {
    Gate x = new Gate();
    due(x.back(), false);
    x.image();
    tell(x, "client reads 1;version 2 3;keep 1;purse 6");
    x.store();
    tell(x, "blame 1");
    x.law();
    x.ticks(7);
    due(x.back(), true);
    int[] counts = {0, 0, 0, 0, NONE, 0, 3, 0, 0, 0, 0, 0, 0, 0};
    for (int i = 0; i < counts.length; i++) due(x.count(i), counts[i], "count(" + i + ")");
    due(x.seed(1), 1);
    due(x.key(2, 0), 0);
    Gate y = skewed();
    tell(y, "blame 3;pay 2");
    y.law();
    y.image();
    tell(y, "");
    y.law();
    y.commit(0);
    y.feed(1, 2, 3, 4, 5);
    due(y.back(), true);
    due(y.end(20), true);
    due(y.count(4), 2);
    due(y.slot(0, 10), 13);
    due(y.slot(0, 11), 3);
    due(y.count(13), 0);
    due(y.count(8), 2);
  }

  private static void count() {
    Gate x = batch(3, "blame 1;pay 1 if only");
    int[] counts = {3, 2, 1, 1, 2, 4, 3, 1, 1, 1, 1, 0, 1, 7};
    for (int i = 0; i < counts.length; i++) due(x.count(i), counts[i], "count(" + i + ")");
    due(x.count(14), NONE);
    due(x.count(-1), NONE);
    x.abort(0);
    x.commit(2);
    int[] later = {3, 0, 0, 1, 2, 5, 3, 3, 0, 2, 2, 1, 5, 9};
    for (int i = 0; i < later.length; i++) due(x.count(i), later[i], "count(" + i + ")");
  }
}
