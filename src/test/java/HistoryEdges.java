/** Promises 21 to 23: how many commits are told, with which versions, and their serial order. */
final class HistoryEdges extends Bench {
  private static Gate of5(String more) { return of("client;client;client;client;client" + more); }

  private static void serialIs(Gate x, int... rows) {
    for (int k = 0; k < rows.length; k++) due(x.serial(k), rows[k], line() + ", serial(" + k + ")");
    due(x.serial(rows.length), NONE, line() + ", serial(" + rows.length + ")");
  }

  @Says("HISTORY: of the latest 12 commits")
  static void twelveRows() {
    Gate x = of("client reads 1 writes 0");
    due(x.count(9), 0);
    for (int what = 0; what < 4; what++) due(x.history(0, what), NONE);
    for (int i = 1; i <= 27; i++) {
      x.ticks(4);
      int rows = Math.min(12, i);
      due(x.count(9), rows);
      due(x.history(0, 1), 2 * (i - rows + 1));
      due(x.history(rows - 1, 1), 2 * i);
      due(x.history(rows, 1), NONE);
      due(x.version(0, 0, true), i - rows + 1);
      due(x.version(rows - 1, 0, true), i);
      due(x.serial(rows - 1), rows - 1);
      due(x.serial(rows), NONE);
    }
    due(x.history(11, 2), 2);
    due(x.history(11, 3), 1);
    for (int what = 0; what < 4; what++) due(x.history(12, what), NONE);
    due(x.version(12, 0, true), NONE);
    due(x.version(12, 1, false), NONE);
    due(x.version(-1, 0, true), NONE);
    due(x.version(-1, 1, false), NONE);
    for (int row = 0; row < 12; row++) due(x.serial(row), row);
    // What is aborted is no commit.
    x.abort(x.begin(0));
    due(x.count(9), 12);
    due(x.history(11, 1), 54);
  }

  @Says(promise = 21, value = "Of a row of HISTORY (0 the oldest) what 0 the CLIENT, 1 ENDED, 2 the KEYS at which it HAS LOOKED, 3 that it HAS WRITTEN, as bits; NONE without")
  static void rowsOfHistory() {
    Gate x = of5("");
    x.begin(3);
    x.begin(4);
    x.read(0, 9);
    x.write(0, 8);
    x.read(0, 8);
    x.commit(0);
    x.commit(1);
    int[][] rows = {{3, 3, 768, 256}, {4, 4, 0, 0}};
    for (int row = 0; row < 2; row++) for (int what = 0; what < 4; what++) due(x.history(row, what), rows[row][what]);
    for (int row : new int[] {-1, 2, 11, 12, Integer.MAX_VALUE, Integer.MIN_VALUE}) {
      for (int what = 0; what < 4; what++) due(x.history(row, what), NONE);
    }
    for (int row : new int[] {-1, 0, 1, 2}) {
      refused(ELEMENT, () -> x.history(row, 4));
      refused(ELEMENT, () -> x.history(row, -1));
    }
  }

  @Says(promise = 22, value = "VERSION of a KEY in a row of HISTORY, as SEEN (wrote false), or by its write; NONE without")
  static void versionsOfARow() {
    Gate x = of5(";version 0 5;version 9 7;version 3 2");
    x.begin(0);
    x.begin(1);
    x.write(1, 3);
    x.commit(1);
    x.read(0, 0);
    x.write(0, 9);
    x.read(0, 9);
    x.read(0, 4);
    x.commit(0);
    due(x.version(0, 3, true), 3);
    due(x.version(0, 3, false), NONE);
    // As SEEN, though it HAS WRITTEN it; 0 is a version, too.
    due(x.version(1, 0, false), 5);
    due(x.version(1, 0, true), NONE);
    due(x.version(1, 9, false), 7);
    due(x.version(1, 9, true), 8);
    due(x.version(1, 4, false), 0);
    due(x.version(1, 3, false), NONE);
    for (int row : new int[] {-1, 2, 12, Integer.MAX_VALUE, Integer.MIN_VALUE}) {
      due(x.version(row, 9, true), NONE);
      due(x.version(row, 9, false), NONE);
      refused(INDEX, () -> x.version(row, 10, true));
      refused(INDEX, () -> x.version(row, -1, false));
    }
    // It stays as it was by that.
    store(x, "version 9 4");
    due(x.version(1, 9, true), 8);
    due(x.version(1, 9, false), 7);
  }

  @Says({"PURSE is PAY (as it was ahead of all that) more (9999 at most); a row of HISTORY;", "HISTORY: of the latest 12 commits"})
  static void aRowForEachCommit() {
    // By hand, by ticks, of one that only reads, of one that has done nothing; not by an abort, a text or a trial.
    Gate x = of5(" only;keep 0");
    x.commit(x.begin(4));
    due(x.count(9), 1);
    x.commit(x.begin(0));
    due(x.count(9), 2);
    x.abort(x.begin(1));
    x.trial(60, false);
    store(x, "keep 1");
    due(x.count(9), 2);
    due(x.ticks(60) > 12, true);
    due(x.count(9), 12);
    due(x.undo(), true);
    due(x.count(9), 2);
    due(x.history(0, 0), 4);
    due(x.history(1, 0), 0);
    for (int row = 0; row < 2; row++) due(x.serial(row), row);
  }

  @Says("the CLIENT, ENDED, the KEYS at which it HAS LOOKED, with VERSION as SEEN, the KEYS that it HAS WRITTEN, with VERSION as it was by that")
  static void whatARowTells() {
    // LOOKED, not READ: a SAFE one, and who reads what it HAS WRITTEN, have these rows, too.
    Gate x = of("client;client only;client;version 2 5;version 7 1");
    x.begin(1);
    due(x.slot(0, 14), 1);
    x.read(0, 2);
    x.read(0, 6);
    due(x.slot(0, 5), 0);
    x.begin(0);
    x.write(1, 7);
    x.read(1, 7);
    due(x.slot(1, 5), 0);
    x.commit(1);
    x.commit(0);
    int[][] rows = {{0, 3, 128, 128}, {1, 4, 68, 0}};
    for (int row = 0; row < 2; row++) for (int what = 0; what < 4; what++) due(x.history(row, what), rows[row][what]);
    due(x.version(0, 7, false), 1);
    due(x.version(0, 7, true), 2);
    due(x.version(1, 2, false), 5);
    due(x.version(1, 6, false), 0);
    due(x.version(1, 7, false), NONE);
    due(x.version(1, 7, true), NONE);
    // A row is of a commit: it stays when its SLOT is another one's, and its CLIENT's program is of no matter.
    due(x.running() + x.finished(), 0);
    x.begin(2);
    x.write(0, 2);
    due(x.count(9), 2);
    for (int row = 0; row < 2; row++) for (int what = 0; what < 4; what++) due(x.history(row, what), rows[row][what]);
    x.commit(0);
    due(x.version(2, 2, true), 6);
    due(x.version(2, 2, false), NONE);
    due(x.version(1, 2, false), 5);
  }

  @Says("it wrote a VERSION and the other one saw that or a later one")
  static void wroteAndSaw() {
    // Row 0 wrote key 0, row 1 saw that; row 2 saw key 1 ahead of row 0's write.
    for (int later = 0; later < 2; later++) {
      Gate x = of5("");
      x.begin(2);
      x.begin(0);
      x.read(0, 1);
      x.write(1, 0);
      x.write(1, 1);
      x.commit(1);
      if (later == 1) store(x, "version 0 3");
      x.commit(readerOf(x, 0));
      x.commit(0);
      due(x.version(1, 0, false), later == 1 ? 4 : 1);
      serialIs(x, 2, 0, 1);
    }
    // Row 1 saw no key that row 0 wrote: it need not wait for it.
    Gate y = of5("");
    y.begin(2);
    y.begin(0);
    y.read(0, 1);
    y.write(1, 0);
    y.write(1, 1);
    y.commit(1);
    y.commit(readerOf(y, 5));
    y.commit(0);
    serialIs(y, 1, 2, 0);
  }

  private static int readerOf(Gate x, int key) {
    int slot = x.begin(1);
    x.read(slot, key);
    return slot;
  }

  @Says("or it saw a VERSION and the other one, not itself, wrote a later one")
  static void sawAndWrote() {
    // Row 1 saw key 0 ahead of row 0's write; it saw and wrote key 5 itself.
    Gate x = of5("");
    x.begin(0);
    x.begin(1);
    x.read(0, 0);
    x.read(0, 5);
    x.write(0, 5);
    x.write(1, 0);
    x.commit(1);
    x.commit(0);
    serialIs(x, 1, 0);
    // It saw the very version that row 0 wrote: it goes behind, as the oldest goes first.
    Gate y = of5("");
    y.begin(2);
    y.begin(0);
    y.write(1, 0);
    y.commit(1);
    y.commit(readerOf(y, 0));
    y.commit(0);
    serialIs(y, 0, 1, 2);
  }

  @Says("or both wrote, it the lesser VERSION")
  static void bothWrote() {
    // Row 2 saw key 1 ahead of row 0's write; rows 0 and 1 both wrote key 0, unseen.
    Gate x = of5("");
    x.begin(2);
    x.begin(0);
    x.read(0, 1);
    x.write(1, 0);
    x.write(1, 1);
    x.commit(1);
    int other = x.begin(1);
    x.write(other, 0);
    x.commit(other);
    x.commit(0);
    serialIs(x, 2, 0, 1);
    // Alike versions, at their end, bind none: row 1 goes ahead of row 0, that waits for row 2.
    Gate y = of("client;client;client;" + lines("version 0 999", 11));
    y.begin(2);
    y.begin(0);
    y.read(0, 1);
    y.write(1, 0);
    y.write(1, 1);
    y.commit(1);
    int late = y.begin(1);
    y.write(late, 0);
    y.commit(late);
    y.commit(0);
    due(y.version(0, 0, true), 9999);
    due(y.version(1, 0, true), 9999);
    serialIs(y, 1, 2, 0);
  }

  @Says("SERIAL of K: the K-th row of HISTORY (0 the oldest is row 0) in the order in which each time the oldest row goes next ahead of which none of those left MUST BE; none (also, if there is no such one left)")
  static void noneIsLeft() {
    due(new Gate().serial(0), NONE);
    Gate x = of5("");
    x.commit(x.begin(0));
    due(x.serial(0), 0);
    for (int k : new int[] {-1, 1, 11, 12, Integer.MAX_VALUE, Integer.MIN_VALUE}) due(x.serial(k), NONE);
    // At the end of the versions two rows can each have to be ahead of the other one: row 1 saw 9999 of key 0, as it
    // was written again, and row 2 wrote a later version of key 2 than row 1 saw.
    Gate y = of("client;client;client;" + lines("version 0 999", 11));
    y.commit(y.begin(2));
    y.begin(2);
    y.begin(0);
    y.begin(1);
    y.read(1, 0);
    y.read(1, 2);
    y.commit(1);
    y.write(2, 0);
    y.write(2, 2);
    y.commit(2);
    due(y.version(1, 0, false), 9999);
    due(y.version(2, 0, true), 9999);
    due(y.serial(0), 0);
    due(y.serial(1), NONE);
    due(y.serial(2), NONE);
    // What comes behind them is free to go.
    y.commit(y.begin(1));
    due(y.serial(0), 0);
    due(y.serial(1), 3);
    due(y.serial(2), NONE);
    due(y.serial(3), NONE);
  }

  @Says(promise = 23, value = "SERIAL of K; NONE")
  static void serialOfAll() {
    Gate x = of5("");
    for (int i = 0; i < 13; i++) {
      due(x.serial(Math.min(12, i)), NONE);
      x.commit(x.begin(i % 5));
      int last = Math.min(11, i);
      due(x.serial(last), last);
      due(x.serial(0), 0);
    }
    for (int k : new int[] {-1, 12, 13, Integer.MAX_VALUE, Integer.MIN_VALUE}) due(x.serial(k), NONE);
  }

  @Says("ahead of which none of those left MUST BE")
  static void askedAgain() {
    // Row 1 must be ahead of row 0; undone, and told otherwise, it need not be.
    Gate x = of5("");
    x.begin(0);
    x.begin(1);
    x.read(0, 0);
    x.write(1, 0);
    x.commit(1);
    x.commit(0);
    serialIs(x, 1, 0);
    x.undo();
    serialIs(x, 0);
    x.abort(0);
    x.commit(x.begin(2));
    serialIs(x, 0, 1);
    x.commit(x.begin(3));
    serialIs(x, 0, 1, 2);
  }
}
