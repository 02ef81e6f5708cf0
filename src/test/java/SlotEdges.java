/** Promises 7 to 10 and 12: slots, what is seen, keys, clients, and beginning. */
final class SlotEdges extends Bench {
  private static final String FOUR_AND_ONLY = "client;client;client;client;client only";

  @Says("SLOTS 0 to 7: each FREE (at first), RUNNING or FINISHED")
  static void freeAtFirst() {
    Gate x = new Gate();
    for (int slot = 0; slot < 8; slot++) due(x.slot(slot, 0), 0);
    due(x.running() + x.finished(), 0);
    Gate y = of(FOUR_AND_ONLY);
    y.begin(0);
    y.begin(1);
    due(y.slot(1, 0), 1);
    y.commit(1);
    due(y.slot(1, 0), 2);
    due(y.slot(2, 0), 0);
    y.abort(0);
    due(y.slot(0, 0), 0);
    due(y.slot(1, 0), 0);
  }

  @Says(promise = 7, value = "14 1 if SAFE, 15 1 if SPOILT; NONE of a FREE one (but for what 0)")
  static void noneOfAFreeOne() {
    Gate x = new Gate();
    int[] free = {0, NONE, NONE, NONE, NONE, NONE, NONE, NONE, NONE, NONE, NONE, NONE, NONE, NONE, NONE, NONE};
    for (int slot = 0; slot < 8; slot++) slotIs(x, slot, free);
    Gate y = of(FOUR_AND_ONLY);
    y.begin(4);
    slotIs(y, 0, 1, 4, 1, 0, 0, 0, 0, 0, 0, 0, 10, 1, 0, 0, 1, 0);
    slotIs(y, 1, free);
    y.begin(1);
    slotIs(y, 1, 1, 1, 2, 0, 0, 0, 0, 0, 0, 0, 10, 1, 0, 0, 0, 0);
    y.commit(0);
    // A FINISHED one is SAFE no more.
    slotIs(y, 0, 2, 4, 1, 3, 0, 0, 0, 0, 0, 0, 10, 1, 0, 0, 0, 0);
    y.abort(1);
    slotIs(y, 0, free);
    slotIs(y, 1, free);
  }

  @Says("its CLIENT, BEGAN, ENDED (0, if it is RUNNING)")
  static void endedOfARunningOne() {
    Gate x = of(FOUR_AND_ONLY);
    x.begin(0);
    x.begin(3);
    due(x.slot(1, 3), 0);
    due(x.commit(1), 3);
    slotIs(x, 1, 2, 3, 2, 3);
    // The slot that it was is another's then, that runs.
    x.keep(0);
    due(x.begin(2), 1);
    slotIs(x, 1, 1, 2, 4, 0);
  }

  @Says("HAS LOOKED, HAS READ, HAS WRITTEN: sets of KEYS; ONLY, if its CLIENT is; SPOILT or not; OUTMIN, INMAX (0 at first)")
  static void eachBeginIsAnew() {
    // Slot 0 gets OUTMIN and INMAX, and keys looked at, read and written.
    Gate x = of(FOUR_AND_ONLY + ";keep 0");
    x.begin(0);
    x.read(0, 0);
    x.begin(1);
    x.read(1, 1);
    x.commit(1);
    x.begin(2);
    x.write(1, 0);
    x.commit(1);
    x.write(0, 1);
    x.read(0, 1);
    slotIs(x, 0, 1, 0, 1, 0, 3, 1, 2, 0, 0, 5, 10, 1, 5, 3, 0, 0);
    x.abort(0);
    due(x.begin(3), 0);
    slotIs(x, 0, 1, 3, 6, 0, 0, 0, 0, 0, 0, 0, 10, 1, 0, 0, 0, 0);
    // Slot 2 is SPOILT; who begins in it then is not, nor has it an edge.
    Gate y = of("client;client;client only");
    y.begin(0);
    y.read(0, 0);
    y.begin(1);
    y.write(1, 0);
    y.commit(1);
    y.begin(2);
    y.write(0, 1);
    y.commit(0);
    due(y.slot(2, 15), 1);
    y.read(2, 7);
    y.abort(2);
    due(y.slot(2, 15), NONE);
    for (int i = 0; i < 2; i++) y.begin(i);
    due(y.begin(2), 2);
    slotIs(y, 2, 1, 2, 8, 0, 0, 0, 0, 0, 0, 0, 10, 1, 0, 0, 0, 0);
    due(y.count(8), 0);
    // Nor edges to it and from it, whether it was aborted, summarised or forgotten.
    for (int how = 0; how < 3; how++) {
      Gate z = of(FOUR_AND_ONLY + ";keep 6");
      z.begin(0);
      z.begin(1);
      z.begin(2);
      z.read(0, 0);
      z.write(1, 0);
      z.read(1, 1);
      z.write(2, 1);
      due(z.slot(1, 7), 4);
      due(z.slot(1, 8), 1);
      if (how == 0) z.abort(1);
      else z.commit(1);
      if (how == 1) z.keep(0);
      if (how == 2) {
        z.abort(0);
        z.abort(2);
      }
      due(z.begin(3), how == 2 ? 0 : 1);
      if (how == 2) due(z.begin(1), 1);
      due(z.slot(1, 7), 0);
      due(z.slot(1, 8), 0);
      due(z.count(8), 0);
      due(z.pivots(), 0);
    }
  }

  @Says("SEEN: VERSION of each KEY as it was when it began")
  static void seenStays() {
    Gate x = of("client;client;client;version 0 3;version 9 9");
    x.begin(0);
    x.begin(1);
    due(x.seen(0, 0), 3);
    due(x.seen(0, 9), 9);
    due(x.seen(0, 5), 0);
    x.write(1, 0);
    due(x.seen(1, 0), 3);
    x.commit(1);
    due(x.seen(0, 0), 3);
    due(x.seen(1, 0), 3);
    store(x, "version 5 6");
    due(x.seen(0, 5), 0);
    x.begin(2);
    due(x.seen(2, 0), 4);
    due(x.seen(2, 5), 6);
  }

  @Says(promise = 8, value = "VERSION of a KEY as SEEN by a SLOT; NONE of a FREE one")
  static void seenOfAFreeOne() {
    Gate x = of("client;client;version 3 7");
    for (int slot = 0; slot < 8; slot++) due(x.seen(slot, 3), NONE);
    x.begin(0);
    x.begin(1);
    due(x.seen(0, 3), 7);
    due(x.seen(2, 3), NONE);
    x.commit(1);
    due(x.seen(1, 3), 7);
    x.abort(0);
    due(x.seen(0, 3), NONE);
    due(x.seen(1, 3), NONE);
  }

  @Says("BEGIN of a CLIENT that has no RUNNING SLOT: in the least FREE SLOT: STAMP is 1 more, BEGAN is STAMP")
  static void theLeastFree() {
    Gate x = of("client;client;client;client;client");
    for (int i = 0; i < 5; i++) {
      due(x.begin(4 - i), i);
      due(x.slot(i, 2), i + 1);
      due(x.slot(i, 1), 4 - i);
      due(x.count(5), i + 1);
    }
    x.abort(3);
    x.abort(1);
    due(x.begin(1), 1);
    due(x.begin(3), 3);
    due(x.slot(1, 2), 6);
    due(x.slot(3, 2), 7);
    // A FINISHED one that is kept is not FREE.
    x.commit(2);
    due(x.begin(2), 5);
    due(x.slot(5, 2), 9);
  }

  /** Slot 0 runs, 1 to 6 have FINISHED, 7 runs: none is FREE. */
  private static Gate full() {
    Gate x = of("client;client;client;client;client;keep 6");
    x.begin(0);
    for (int i = 1; i <= 6; i++) {
      due(x.begin(1), i);
      x.commit(i);
    }
    due(x.begin(1), 7);
    return x;
  }

  @Says(promise = 12, value = "IllegalStateException: it has a RUNNING one, or none is FREE")
  static void noneIsFree() {
    Gate x = full();
    due(x.running(), 129);
    due(x.finished(), 126);
    due(x.count(5), 14);
    refused(STATE, () -> x.begin(2));
    refused(STATE, () -> x.begin(0));
    refused(STATE, () -> x.begin(1));
    due(x.count(5), 14);
    x.abort(7);
    due(x.begin(2), 7);
    refused(STATE, () -> x.begin(1));
    // With one kept less there is one FREE, the least that LEFT.
    x.keep(5);
    due(x.begin(1), 1);
    Gate y = of("client;client");
    due(y.begin(1), 0);
    refused(STATE, () -> y.begin(1));
    due(y.begin(0), 1);
    refused(STATE, () -> y.begin(0));
    y.commit(0);
    due(y.begin(1), 2);
  }

  @Says("without a RUNNING SLOT BEGIN (nothing, if no SLOT is FREE)")
  static void nothingIfNoneIsFree() {
    Gate x = full();
    due(x.client(2, 6), 0);
    int seed = 1;
    while (draw(seed) % 5 != 2) seed++;
    x.seed(seed);
    due(x.ticks(1), 0);
    due(x.client(2, 5), NONE);
    due(x.count(5), 14);
    due(x.count(12), 6);
    due(x.running(), 129);
    // The DRAW was one all the same.
    due(x.seed(seed), 1103515245 * seed + 12345);
    x.abort(7);
    due(x.ticks(1), 0);
    due(x.client(2, 5), 7);
    due(x.count(5), 15);
  }

  private static int draw(int seed) { return (1103515245 * seed + 12345 >>> 16) % 32768; }

  @Says(promise = 9, value = "4 the RUNNING SLOT that HAS WRITTEN it (NONE)")
  static void theWriterOfAKey() {
    Gate x = of("client;client");
    x.begin(0);
    x.begin(1);
    due(x.key(0, 4), NONE);
    x.write(0, 0);
    x.write(1, 9);
    x.read(1, 5);
    due(x.key(0, 4), 0);
    due(x.key(9, 4), 1);
    due(x.key(5, 4), NONE);
    x.commit(1);
    due(x.slot(1, 6), 512);
    due(x.key(9, 4), NONE);
    x.abort(0);
    due(x.key(0, 4), NONE);
  }

  @Says({"KEYS 0 to 9: VERSION 0 to 9999 (0 at first)", "Of each KEY: LAST READ, LAST WRITTEN, LAST OUT (0 at first)"})
  static void keysAtFirst() {
    Gate x = of("client");
    for (int key = 0; key < 10; key++) keyIs(x, key, 0, 0, 0, 0, NONE);
    // What is read, written and forgotten leaves but a version.
    x.begin(0);
    x.read(0, 1);
    x.write(0, 2);
    x.commit(0);
    keyIs(x, 1, 0, 0, 0, 0, NONE);
    keyIs(x, 2, 1, 0, 0, 0, NONE);
  }

  @Says(promise = 10, value = "6 its STEP (0 BEGIN, though no SLOT is FREE, 100 and the KEY READ, 200 and the KEY WRITE, 300 COMMIT)")
  static void stepsOfAClient() {
    Gate x = of("client reads 0 9 writes 9 0;client reads 9;client writes 0;client;client reads 0 only");
    for (int i = 0; i < 5; i++) due(x.client(i, 6), 0);
    for (int i = 0; i < 5; i++) x.begin(i);
    int[] steps = {100, 109, 200, 300, 100};
    for (int i = 0; i < 5; i++) due(x.client(i, 6), steps[i]);
    // The least key that is left, not the next one; looked at is looked at, though its own write.
    x.read(0, 9);
    due(x.client(0, 6), 100);
    x.write(0, 0);
    due(x.client(0, 6), 100);
    x.read(0, 0);
    due(x.slot(0, 5), 512);
    due(x.client(0, 6), 209);
    x.write(0, 9);
    due(x.client(0, 6), 300);
    x.read(0, 5);
    x.write(0, 5);
    due(x.client(0, 6), 300);
    x.read(4, 0);
    due(x.client(4, 6), 300);
    due(x.client(4, 5), 4);
    x.abort(4);
    due(x.client(4, 6), 0);
    due(x.client(4, 5), NONE);
    x.commit(0);
    due(x.client(0, 6), 0);
    due(x.client(0, 5), NONE);
    Gate full = full();
    due(full.client(2, 6), 0);
    due(full.client(1, 5), 7);
    due(full.client(0, 5), 0);
  }

  @Says("SAFE: a RUNNING SLOT that is ONLY, not SPOILT, if no SLOT that is not ONLY and whose BEGAN is less is RUNNING")
  static void safeOnes() {
    Gate x = of("client;client;client only;client only");
    x.begin(2);
    x.begin(0);
    x.begin(3);
    // Slot 0 began ahead of the writer (slot 1), slot 2 behind it.
    due(x.slot(0, 14), 1);
    due(x.slot(1, 14), 0);
    due(x.slot(2, 14), 0);
    x.begin(1);
    due(x.slot(0, 14), 1);
    x.commit(1);
    // The writer that is RUNNING still began behind both.
    due(x.slot(0, 14), 1);
    due(x.slot(2, 14), 1);
    due(x.slot(3, 14), 0);
    x.commit(0);
    due(x.slot(0, 14), 0);
    due(x.slot(2, 14), 1);
    // One that only reads and began ahead is of no matter; a writer that is aborted neither.
    Gate y = of("client;client only;client only");
    y.begin(0);
    y.begin(1);
    y.begin(2);
    due(y.slot(1, 14) + y.slot(2, 14), 0);
    y.abort(0);
    due(y.slot(1, 14), 1);
    due(y.slot(2, 14), 1);
  }

  @Says(promise = 19, value = "PIVOTS, as bits")
  static void pivotsOfRunningAndFinished() {
    due(new Gate().pivots(), 0);
    Gate x = of("client;client;client");
    x.begin(0);
    x.begin(1);
    x.begin(2);
    x.read(0, 1);
    x.write(1, 1);
    due(x.pivots(), 0);
    x.read(1, 2);
    due(x.pivots(), 0);
    x.write(2, 2);
    due(x.pivots(), 2);
    x.commit(1);
    due(x.pivots(), 2);
    x.abort(0);
    due(x.pivots(), 0);
  }

  @Says({"PIVOTS: RUNNING or FINISHED SLOTS that are pivots by the law's words, as bits",
      "pivot: it has an EDGE to it (or INMAX above 0) and one from it (or OUTMIN above 0)"})
  static void pivotsByWhatHasLeft() {
    // Slot 1 has an edge to it and one from it; who is ahead of it, then who is behind it, LEAVES.
    Gate x = of("client;client;client;client;keep 6", "blame 5 if pivot");
    for (int i = 0; i < 4; i++) x.begin(i);
    x.read(0, 0);
    x.write(1, 0);
    x.read(1, 1);
    due(x.slot(1, 10), 10);
    x.write(2, 1);
    due(x.slot(1, 10), 15);
    due(x.pivots(), 2);
    due(x.commit(0), 5);
    due(x.pivots(), 2);
    x.keep(0);
    slotIs(x, 1, 1, 1, 2, 0, 2, 2, 1, 4, 0, 0, 15, 1, 0, 5, 0, 0);
    due(x.pivots(), 2);
    x.keep(6);
    x.commit(1);
    due(x.commit(2), 7);
    due(x.finished(), 6);
    due(x.pivots(), 2);
    x.undo();
    x.undo();
    due(x.slot(1, 0), 1);
    // With INMAX alone, and with OUTMIN alone, it is none.
    x.abort(2);
    slotIs(x, 1, 1, 1, 2, 0, 2, 2, 1, 0, 0, 0, 10, 1, 0, 5, 0, 0);
    due(x.pivots(), 0);
    Gate y = of("client;client;client;client;keep 0", "blame 5 if pivot");
    for (int i = 0; i < 3; i++) y.begin(i);
    y.read(1, 1);
    y.write(2, 1);
    due(y.commit(2), 4);
    slotIs(y, 1, 1, 1, 2, 0, 2, 2, 0, 0, 0, 4, 10, 1, 4, 0, 0, 0);
    due(y.pivots(), 0);
    // OUTMIN and an edge to it: who is ahead only reads and began ahead of FIRST, so there is no danger.
    Gate z = of("client;client;client only;keep 0", "blame 5 if pivot");
    z.begin(0);
    z.begin(1);
    z.read(0, 1);
    z.write(1, 1);
    z.begin(2);
    z.commit(1);
    z.read(2, 0);
    z.write(0, 0);
    slotIs(z, 0, 1, 0, 1, 0, 2, 2, 1, 0, 4, 4, 15, 1, 4, 0, 0, 0);
    due(z.pivots(), 1);
    z.commit(0);
    due(z.pivots(), 0);
  }

  @Says("EDGES: from one SLOT to another one")
  static void noEdgeToItself() {
    Gate x = of("client;client;keep 6");
    x.begin(0);
    x.read(0, 3);
    x.write(0, 3);
    x.read(0, 3);
    x.write(0, 3);
    due(x.count(8), 0);
    due(x.slot(0, 7) + x.slot(0, 8), 0);
    x.begin(1);
    x.commit(0);
    due(x.count(8), 0);
    // Each way is one, and a second time it is the same one.
    x.read(1, 3);
    x.read(1, 3);
    due(x.count(8), 1);
    due(x.slot(1, 7), 1);
    due(x.slot(0, 8), 2);
    due(x.slot(0, 7) + x.slot(1, 8), 0);
  }

  @Says(promise = 12, value = "A CLIENT begins: the SLOT")
  static void whatBeginningAnswers() {
    Gate x = of("client;client;client;client;client;keep 6");
    int[] order = {3, 1, 4, 0, 2};
    for (int i = 0; i < 5; i++) due(x.begin(order[i]), i);
    for (int i = 0; i < 5; i++) due(x.client(order[i], 5), i);
    for (int i = 1; i < 4; i++) {
      x.commit(i);
      due(x.begin(order[i]), 4 + i);
    }
    x.abort(0);
    due(x.begin(3), 0);
  }

  @Says(promise = 7, value = "Of a SLOT what 0 0 FREE, 1 RUNNING, 2 FINISHED, 1 its CLIENT, 2 BEGAN, 3 ENDED, 4 HAS LOOKED, 5 HAS READ, 6 HAS WRITTEN, as bits, 7 EDGES from it, 8 EDGES to it, as bits of SLOTS, 9 FIRST, 10 BLAME, 11 PAY, 12 OUTMIN, 13 INMAX,")
  static void whatOfASlot() {
    // Slot 7 reads what slot 0 has written, and writes what slot 0 has read; keys 0 and 9, slots 0 and 7.
    Gate x = full();
    law(x, "blame 5 if writes>0;pay 7 if pivot");
    x.write(0, 9);
    x.read(0, 0);
    x.read(7, 9);
    x.write(7, 0);
    x.read(7, 0);
    slotIs(x, 0, 1, 0, 1, 0, 1, 1, 512, 128, 128, 0, 15, 8, 0, 0, 0, 0);
    slotIs(x, 7, 1, 1, 14, 0, 513, 512, 1, 1, 1, 0, 15, 8, 0, 0, 0, 0);
    slotIs(x, 6, 2, 1, 12, 13, 0, 0, 0, 0, 0, 0, 10, 1, 0, 0, 0, 0);
  }

  @Says("FIRST of a SLOT: the least ENDED of FINISHED ones to which it has an EDGE, and OUTMIN (if that is above 0); 0 without")
  static void firstOfASlot() {
    Gate x = of(FOUR_AND_ONLY + ";keep 6");
    for (int i = 0; i < 4; i++) x.begin(i);
    for (int key = 1; key <= 3; key++) {
      x.read(0, key);
      x.write(key, key);
    }
    due(x.slot(0, 7), 14);
    // To RUNNING ones alone: 0.
    due(x.slot(0, 9), 0);
    x.commit(2);
    due(x.slot(0, 9), 5);
    x.commit(1);
    due(x.slot(0, 9), 5);
    due(x.slot(1, 9), 0);
    // OUTMIN alone, then with a later end beside it, and with ends alone.
    x.keep(1);
    due(x.slot(0, 12), 5);
    due(x.slot(0, 9), 5);
    x.commit(3);
    due(x.slot(0, 9), 5);
    // OUTMIN below each ENDED: its BEGAN and 1.
    x.read(0, 2);
    due(x.slot(0, 12), 2);
    due(x.slot(0, 9), 2);
    // An OUTMIN above an ENDED cannot be; a FINISHED one has its FIRST still.
    due(x.commit(0), 8);
    due(x.slot(0, 9), NONE);
    Gate y = of(FOUR_AND_ONLY + ";keep 6");
    y.begin(0);
    y.begin(1);
    y.begin(2);
    y.read(0, 0);
    y.write(1, 0);
    y.commit(1);
    y.commit(0);
    due(y.slot(0, 0), 2);
    due(y.slot(0, 9), 4);
    // By an edge to the first slot alone, and to the last one alone.
    Gate z = of(FOUR_AND_ONLY + ";keep 6");
    z.begin(0);
    z.begin(1);
    z.read(1, 0);
    z.write(0, 0);
    z.commit(0);
    due(z.slot(1, 7), 1);
    due(z.slot(1, 9), 3);
    Gate last = full();
    last.read(0, 0);
    last.write(7, 0);
    last.keep(6);
    due(last.slot(0, 7), 128);
    due(last.slot(0, 9), 0);
    last.commit(7);
    due(last.slot(7, 0), 2);
    due(last.slot(0, 9), 15);
  }

  @Says(promise = 9, value = "Of a KEY what 0 VERSION, 1 LAST READ, 2 LAST WRITTEN, 3 LAST OUT,")
  static void whatOfAKey() {
    // Key 9 was written by a summarised one that had a FIRST and read key 0; a third one has written key 0 now.
    Gate x = of(FOUR_AND_ONLY + ";version 0 998;version 9 7;keep 0");
    for (int i = 0; i < 3; i++) x.begin(i);
    x.read(1, 0);
    x.write(2, 0);
    x.commit(2);
    x.write(1, 9);
    x.commit(1);
    keyIs(x, 0, 999, 5, 4, 0, NONE);
    keyIs(x, 9, 8, 0, 5, 4, NONE);
    x.begin(3);
    x.write(1, 0);
    keyIs(x, 0, 999, 5, 4, 0, 1);
    for (int key = 1; key < 9; key++) keyIs(x, key, 0, 0, 0, 0, NONE);
  }
}
