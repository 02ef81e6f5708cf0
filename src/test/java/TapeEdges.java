/** Promises 2 and 3: how the tape is filled and cut. */
final class TapeEdges extends Bench {
  private static final int[] HELLO = {0x6b656570, 0x20313131, 0, 0, 0}; // "keep 111"

  private static int feed(Gate x, int... n) { return x.feed(n[0], n[1], n[2], n[3], n[4]); }

  private static Gate filled(int bytes) {
    Gate x = new Gate();
    for (int i = 0; i * 20 < bytes; i++) x.feed(0x20202020, 0x20202020, 0x20202020, 0x20202020, 0x20202020);
    x.end(bytes);
    return x;
  }

  /** Asks without changing the tape, if it has that length. */
  private static void lengthIs(Gate x, int length) {
    due(x.end(length + 1), false, line() + ", end(" + (length + 1) + ")");
    due(x.end(length), true, line() + ", end(" + length + ")");
  }

  @Says(promise = 2, value = "Twenty bytes come behind the TAPE, of each number the highest first: how many it has")
  static void twentyBytesMore() {
    Gate x = new Gate();
    for (int i = 1; i <= 20; i++) due(x.feed(0, 0, 0, 0, 0), 20 * i);
    Gate y = new Gate();
    y.feed(0, 0, 0, 0, 0);
    y.end(3);
    due(y.feed(0, 0, 0, 0, 0), 23);
    y.end(0);
    due(y.feed(0, 0, 0, 0, 0), 20);
  }

  @Says(promise = 2, value = "of each number the highest first")
  static void theHighestFirst() {
    Gate x = new Gate();
    // "version 3 258;keep 4" in five numbers
    due(x.feed(0x76657273, 0x696f6e20, 0x33203235, 0x383b6b65, 0x65702034), 20);
    due(x.store(), 1);
    due(x.key(3, 0), 258);
    due(x.count(6), 4);
    // Behind what stands already: "keep 1", and of the next number's highest byte on.
    Gate y = new Gate();
    y.feed(0x6b656570, 0x20310000, 0, 0, 0);
    y.end(6);
    y.feed(0x3b707572, 0x73652037, 0, 0, 0);
    y.end(14);
    due(y.store(), 1);
    due(y.count(6), 1);
    due(y.count(7), 7);
    // A number below 0 is four bytes as each other one: with its highest byte, 255 or 128, the text begins.
    for (int n : new int[] {-1, Integer.MIN_VALUE, 0x80000000 | 0x206b6565}) {
      Gate z = new Gate();
      due(z.feed(n, 0, 0, 0, 0), 20);
      refused(ARGUMENT, z::store);
      due(z.fault(), 0);
    }
    // All four bytes of a number tell: rows 1, 19 and 0 of WHO, and of these the last one's 1.
    Gate w = of("client reads 1 writes 9;client reads 1;client");
    w.feed(0x01011301, 0x00010001, 0, 0, 0);
    w.end(6);
    due(w.who(), 1);
    w.feed(0x01011300, 0, 0, 0, 0);
    w.end(4);
    due(w.who(), 7);
  }

  @Says(promise = 2, value = "NONE, and none come, if it would have more than 400")
  static void theTapeIsFull() {
    Gate just = filled(380);
    due(just.feed(0, 0, 0, 0, 0), 400);
    lengthIs(just, 400);
    Gate less = filled(379);
    due(less.feed(0, 0, 0, 0, 0), 399);
    lengthIs(less, 399);
    for (int bytes : new int[] {381, 390, 399, 400}) {
      Gate x = filled(bytes);
      due(x.feed(-1, -1, -1, -1, -1), NONE);
      lengthIs(x, bytes);
      // Blanks alone stand on it still.
      due(outcome(x::store), 1);
      due(x.feed(0, 0, 0, 0, 0), 20);
    }
    Gate again = filled(400);
    due(again.feed(0, 0, 0, 0, 0), NONE);
    due(again.end(380), true);
    due(again.feed(0, 0, 0, 0, 0), 400);
  }

  @Says(promise = 3, value = "The TAPE has its first n bytes alone: true")
  static void theFirstBytesAlone() {
    Gate x = new Gate();
    feed(x, HELLO);
    due(x.end(20), true);
    lengthIs(x, 20);
    due(x.end(6), true);
    lengthIs(x, 6);
    due(x.store(), 1);
    due(x.count(6), 1);
    Gate y = new Gate();
    due(y.end(0), true);
    feed(y, HELLO);
    due(y.end(0), true);
    lengthIs(y, 0);
    due(y.store(), 1);
    due(y.count(6), 3);
  }

  @Says(promise = 3, value = "false, and nothing happens, if it has fewer, or n is below 0")
  static void noSuchEnd() {
    Gate x = new Gate();
    due(x.end(1), false);
    due(x.end(-1), false);
    feed(x, HELLO);
    x.end(6);
    for (int n : new int[] {-1, -6, -20, 7, 20, 400, 401, Integer.MAX_VALUE, Integer.MIN_VALUE}) due(x.end(n), false);
    lengthIs(x, 6);
    due(x.store(), 1);
    due(x.count(6), 1);
    lengthIs(x, 0);
  }

  @Says(promise = 4, value = "Uses the TAPE up: a text of THE STORE: how many there are")
  static void storeUsesItUp() {
    Gate x = new Gate();
    due(store(x, "keep 1"), 1);
    lengthIs(x, 0);
    due(x.store(), 2);
    due(x.count(6), 1);
  }

  @Says(promise = 5, value = "Uses the TAPE up: THE LAW: how many LINES")
  static void lawUsesItUp() {
    Gate x = new Gate();
    due(law(x, "pay 1;pay 2"), 2);
    lengthIs(x, 0);
    due(x.law(), 0);
  }

  @Says(promise = 28, value = "Uses the TAPE up: WHO (of each two bytes: the row 0 to 19, 1 or 0; at most 40 bytes), as bits")
  static void whoUsesItUp() {
    Gate x = of("client reads 0;client");
    tell(x, 0, 1, 0, 1);
    due(x.who(), 1);
    lengthIs(x, 0);
    due(x.who(), 3);
  }

  @Says(promise = 29, value = "Uses the TAPE up: LIKELY (the TAPE as for WHO); NONE")
  static void likelyUsesItUp() {
    Gate x = of("client;client reads 0");
    tell(x, 0, 1, 0, 1);
    due(x.likely(), 1);
    lengthIs(x, 0);
    due(x.likely(), 0);
  }

  @Says(promise = 30, value = "Uses the TAPE up: ASK (the TAPE as for WHO); NONE")
  static void askUsesItUp() {
    Gate x = of("client;client reads 0");
    tell(x, 0, 1, 0, 1);
    due(x.ask(), NONE);
    lengthIs(x, 0);
    due(x.ask(), 0);
  }

  @Says("a call that throws changes nothing but the TAPE, where it is used up")
  static void aRefusedTapeIsUsedUp() {
    Gate x = of("client reads 0;client");
    tell(x, "foo");
    refused(ARGUMENT, x::store);
    lengthIs(x, 0);
    tell(x, "foo");
    refused(ARGUMENT, x::law);
    lengthIs(x, 0);
    tell(x, 20, 0);
    refused(ARGUMENT, x::who);
    lengthIs(x, 0);
    tell(x, 20, 0);
    refused(ARGUMENT, x::likely);
    lengthIs(x, 0);
    tell(x, 20, 0);
    refused(ARGUMENT, x::ask);
    lengthIs(x, 0);
    // What does not read the tape leaves it, whether it is refused or not.
    tell(x, 0, 1);
    refused(ARGUMENT, () -> x.ticks(0));
    refused(INDEX, () -> x.begin(2));
    x.begin(0);
    x.undo();
    x.image();
    x.back();
    lengthIs(x, 2);
    due(x.ask(), 0);
  }
}
