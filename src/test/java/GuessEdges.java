/** Promises 28 to 30: rows that are told, one of them wrong, and what to ask next. */
final class GuessEdges extends Bench {
  private static final String FOUR = "client reads 0 9 writes 0 9;client reads 0;client writes 9;client";

  private static int who(Gate x, int... rows) {
    tell(x, rows);
    return x.who();
  }

  private static int likely(Gate x, int... rows) {
    tell(x, rows);
    return x.likely();
  }

  private static int ask(Gate x, int... rows) {
    tell(x, rows);
    return x.ask();
  }

  @Says("WHO: told are rows: 10 times 0 (READS) or 1 (WRITES), and a KEY; and whether the CLIENT does that (1) or not (0): CLIENTS of which all rows are so, but for one at most, as bits")
  static void oneWrongAtMost() {
    Gate x = of(FOUR);
    // Wrong of client 0, 1, 2, 3: none, told nothing; then one each; then two.
    due(who(x), 15);
    due(who(x, 0, 1), 15);
    due(who(x, 0, 1, 9, 1), 3);
    due(who(x, 0, 1, 9, 1, 10, 1), 1);
    due(who(x, 0, 1, 19, 1), 7);
    due(who(x, 0, 0, 9, 0), 14);
    due(who(x, 0, 0, 19, 0), 14);
    due(who(x, 10, 0, 19, 0, 9, 0), 14);
    // Told twice it is wrong twice, or right twice.
    due(who(x, 0, 1, 0, 1), 3);
    due(who(x, 0, 1, 0, 0), 15);
    due(who(x, 0, 1, 0, 0, 0, 1), 3);
    due(who(x, 19, 1, 19, 1), 5);
    due(who(x, 5, 1, 15, 1), 0);
    // The rows at the edge between READS and WRITES, and the first and the last one.
    due(who(x, 9, 1, 9, 1), 1);
    due(who(x, 10, 1, 10, 1), 1);
    due(who(x, 9, 0, 9, 0), 14);
    due(who(x, 10, 0, 10, 0), 14);
    due(who(x, 0, 0, 0, 0), 12);
    due(who(x, 19, 0, 19, 0), 10);
    due(who(new Gate(), 0, 1), 0);
  }

  @Says(promise = 28, value = "IllegalArgumentException: the TAPE is not that (none may be told)")
  static void notRows() {
    Gate x = of(FOUR);
    int[][] wrong = {{0}, {19}, {0, 1, 0}, {20, 0}, {20, 1}, {255, 0}, {128, 1}, {0, 2}, {0, 255}, {19, 2}, {0, 1, 20, 0}, {0, 1, 0, 1, 5, 2},
        new int[41], new int[42], new int[60], new int[400]};
    for (int[] bytes : wrong) {
      tell(x, bytes);
      refused(ARGUMENT, x::who);
      due(x.end(1), false);
    }
    due(who(x), 15);
    due(who(x, 19, 1), 15);
    due(who(x, 19, 0), 15);
    due(who(x, 0, 0), 15);
    due(who(x, new int[38]), 12);
    due(who(x, new int[40]), 12);
  }

  @Says("LIKELY: the one of the fewest wrong rows (of several the least); none")
  static void fewestWrong() {
    Gate x = of(FOUR);
    due(likely(x), 0);
    due(likely(x, 0, 0), 2);
    due(likely(x, 0, 1), 0);
    due(likely(x, 0, 0, 19, 0), 3);
    due(likely(x, 0, 1, 9, 0), 1);
    due(likely(x, 0, 0, 19, 1), 2);
    // All four have one wrong: the least.
    due(likely(x, 5, 1), 0);
    due(likely(x, 0, 1, 0, 0), 0);
    // Client 3 none, clients 1 and 2 one: the fewest, not the least.
    due(likely(x, 0, 0, 9, 0, 10, 0, 19, 0), 3);
    // Two wrong rows of each: none.
    due(likely(x, 5, 1, 15, 1), NONE);
    due(likely(x, 5, 1, 5, 1), NONE);
    due(likely(x, 0, 1, 9, 0, 10, 0, 5, 1), 1);
    due(likely(new Gate()), NONE);
    due(likely(new Gate(), 0, 1), NONE);
  }

  @Says(promise = 29, value = "IllegalArgumentException: the TAPE is not that")
  static void likelyOfNoRows() {
    Gate x = of(FOUR);
    int[][] wrong = {{0}, {20, 0}, {0, 2}, {0, 1, 0}, new int[41], new int[42]};
    for (int[] bytes : wrong) {
      tell(x, bytes);
      refused(ARGUMENT, x::likely);
      due(x.end(1), false);
    }
    due(likely(x, 19, 1, 19, 1), 0);
    due(likely(x, new int[40]), 2);
    Gate none = new Gate();
    tell(none, 20, 0);
    refused(ARGUMENT, none::likely);
  }

  @Says("ASK: the row (0 to 19) by which those that fit are parted so that the greater part is the least (of several the least; none with fewer than two)")
  static void greaterPartTheLeast() {
    Gate x = of(FOUR);
    // Row 0 parts the four two by two (as row 19 does).
    due(ask(x), 0);
    // Clients 0 and 1 fit: row 9 is the first one that only one of them does.
    due(ask(x, 0, 1, 9, 1), 9);
    // Clients 1, 2 and 3 fit: row 0 parts off one.
    due(ask(x, 0, 0, 9, 0), 0);
    // One fits, none fits.
    due(ask(x, 0, 1, 9, 1, 10, 1), NONE);
    due(ask(x, 5, 1, 15, 1), NONE);
    due(ask(new Gate()), NONE);
    due(ask(of("client")), NONE);
    // No row parts twins: the least row, though it parts none.
    due(ask(of("client;client")), 0);
    due(ask(of("client reads 0;client reads 0;client reads 0")), 0);
    // The last row, and the one ahead of it.
    due(ask(of("client;client writes 9")), 19);
    due(ask(of("client reads 0 writes 0;client reads 0 writes 0 8 9")), 18);
    // All but one do it, or one alone does: both part alike, the least row goes.
    due(ask(of("client reads 1;client reads 1;client reads 2")), 1);
    due(ask(of("client reads 2;client reads 1;client reads 1")), 1);
    // Better parted is better than earlier.
    due(ask(of("client reads 0;client writes 3;client writes 3;client")), 13);
    due(ask(of("client reads 0;client writes 3;client writes 3 4;client writes 4;client")), 13);
  }

  @Says(promise = 30, value = "IllegalArgumentException: the TAPE is not that")
  static void askOfNoRows() {
    Gate x = of(FOUR);
    int[][] wrong = {{0}, {20, 0}, {0, 2}, {0, 1, 0}, new int[41], new int[42]};
    for (int[] bytes : wrong) {
      tell(x, bytes);
      refused(ARGUMENT, x::ask);
      due(x.end(1), false);
    }
    due(ask(x, 19, 1), 0);
    due(ask(x, new int[40]), 19);
    Gate none = new Gate();
    tell(none, 0, 3);
    refused(ARGUMENT, none::ask);
  }
}
