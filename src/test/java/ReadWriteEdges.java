/** Promises 13 to 16: reading, writing, committing and aborting, with the bounds that summarised ones leave behind. */
final class ReadWriteEdges extends Bench {
  private static Gate fleet(int keep) { return of("client;client;client;client;client only;keep " + keep); }

  @Says("CONCURRENT to a RUNNING SLOT: each other RUNNING one, and each FINISHED one whose ENDED is above its BEGAN")
  static void concurrentByItsEnd() {
    // Slot 0 begins first, so that nothing is forgotten. Client 1 writes key 0 and ends at 4.
    for (int begins = 0; begins < 2; begins++) {
      Gate x = fleet(6);
      x.begin(0);
      x.begin(1);
      if (begins == 0) x.begin(2);
      x.write(1, 0);
      int ended = x.commit(1);
      if (begins == 1) x.begin(2);
      int reader = x.client(2, 5);
      // Begun one ahead of the end it is concurrent, one behind it it is not.
      due(x.slot(reader, 2), begins == 0 ? ended - 1 : ended + 1);
      x.read(reader, 0);
      due(x.slot(reader, 7), begins == 0 ? 2 : 0);
      due(x.slot(1, 8), begins == 0 ? 1 << reader : 0);
      due(x.slot(reader, 5), 1);
    }
    // The same for who writes what a FINISHED one HAS READ.
    for (int begins = 0; begins < 2; begins++) {
      Gate x = fleet(6);
      x.begin(0);
      x.begin(1);
      if (begins == 0) x.begin(2);
      x.read(1, 0);
      x.commit(1);
      if (begins == 1) x.begin(2);
      int writer = x.client(2, 5);
      due(x.write(writer, 0), true);
      due(x.slot(1, 7), begins == 0 ? 1 << writer : 0);
      due(x.slot(writer, 8), begins == 0 ? 2 : 0);
    }
  }

  @Says({"Else it HAS READ it; it has an EDGE to each CONCURRENT one that HAS WRITTEN it", "(EDGES come of what is done, not of what is planned.)"})
  static void edgesOfAReader() {
    Gate x = fleet(6);
    x.begin(0);
    x.begin(1);
    x.begin(2);
    x.read(0, 3);
    x.write(1, 3);
    due(x.slot(0, 7), 2);
    x.read(2, 3);
    due(x.slot(2, 7), 2);
    due(x.slot(1, 8), 5);
    due(x.count(8), 2);
    // Told again they are the same; another key, and its own, make none.
    x.read(2, 3);
    x.read(2, 4);
    x.read(1, 3);
    due(x.count(8), 2);
    due(x.slot(1, 7), 0);
    // What has been planned alone makes none.
    Gate y = of("client reads 0 writes 0;client reads 0 writes 0");
    y.begin(0);
    y.begin(1);
    due(y.count(8), 0);
    y.write(0, 0);
    due(y.count(8), 0);
  }

  @Says("HAS LOOKED at it; if it HAS WRITTEN it, or is SAFE, that is all (no DANGERS are met, no TIDY)")
  static void lookedAtAlone() {
    Gate x = of("client;client only;version 0 5;version 9 7");
    x.begin(0);
    due(x.read(0, 0), 5);
    x.write(0, 9);
    due(x.read(0, 9), 8);
    due(x.slot(0, 4), 513);
    due(x.slot(0, 5), 1);
    // What it HAS READ ahead of writing it stays read.
    x.write(0, 0);
    due(x.read(0, 0), 6);
    due(x.slot(0, 5), 1);
    x.begin(1);
    due(x.read(1, 0), 5);
    due(x.slot(1, 5), 1);
    due(x.slot(1, 7), 1);
    x.abort(0);
    due(x.slot(1, 14), 1);
    due(x.read(1, 9), 7);
    due(x.slot(1, 4), 513);
    due(x.slot(1, 5), 1);
    // SAFE it has no edge to who writes at the same time, nor to it.
    x.begin(0);
    x.write(0, 5);
    due(x.read(1, 5), 0);
    due(x.write(0, 9), true);
    due(x.count(8), 0);
    due(x.slot(1, 4), 545);
  }

  @Says("if LAST WRITTEN of the KEY is above its BEGAN: OUTMIN is its BEGAN and 1")
  static void lastWrittenAndBegan() {
    Gate x = fleet(0);
    x.begin(0);
    x.begin(1);
    x.begin(2);
    x.write(1, 0);
    due(x.commit(1), 4);
    due(x.begin(3), 1);
    keyIs(x, 0, 1, 0, 4, 0);
    // Begun at 3: LAST WRITTEN, 4, is one above. Begun at 5: it is one below.
    due(x.read(2, 0), 0);
    due(x.slot(2, 12), 4);
    due(x.slot(2, 9), 4);
    due(x.read(1, 0), 1);
    due(x.slot(1, 12), 0);
    due(x.read(0, 0), 0);
    due(x.slot(0, 12), 2);
    // Another key's LAST WRITTEN is of no matter.
    due(x.read(1, 1), 0);
    due(x.slot(1, 12), 0);
    // It is that, though it was more.
    Gate y = fleet(0);
    y.begin(0);
    y.read(0, 5);
    y.begin(1);
    y.write(1, 5);
    y.write(1, 6);
    y.commit(1);
    due(y.slot(0, 12), 3);
    y.read(0, 6);
    due(y.slot(0, 12), 2);
  }

  /**
   * Client 0 begins at 1 and keeps the reader from being SAFE. Key 1 has LAST WRITTEN above all begins, and LAST OUT 3:
   * OUTMIN of client 1, that began at 2. The reader, of a client told, begins at 2, 3 or 4.
   */
  private static Gate lastOutIsThree(int reader, int begins) {
    Gate x = fleet(0);
    x.begin(0);
    if (begins == 2) {
      x.begin(reader);
      x.begin(1);
      x.begin(2);
    } else {
      x.begin(1);
      if (begins == 4) x.begin(2);
      x.begin(reader);
      if (begins == 3) x.begin(2);
    }
    int pivot = x.client(1, 5);
    int other = x.client(2, 5);
    x.write(other, 0);
    x.commit(other);
    x.read(pivot, 0);
    x.write(pivot, 1);
    x.commit(pivot);
    return x;
  }

  @Says("if then LAST OUT is above 0, and either it is not ONLY, or LAST OUT is below its BEGAN: it is ABORTED (1)")
  static void lastOutAndBegan() {
    Gate at4 = lastOutIsThree(4, 4);
    keyIs(at4, 1, 1, 0, 6, 3);
    due(at4.slot(3, 2), 4);
    due(at4.read(3, 1), NONE);
    logIs(at4, row(6, 4, 1, 3));
    due(at4.client(4, 3), 1);
    due(at4.slot(3, 0), 0);
    Gate at3 = lastOutIsThree(4, 3);
    due(at3.slot(2, 2), 3);
    keyIs(at3, 1, 1, 0, 6, 3);
    due(at3.slot(2, 14), 0);
    due(at3.read(2, 1), 0);
    due(at3.slot(2, 12), 4);
    Gate at2 = lastOutIsThree(4, 2);
    due(at2.slot(1, 2), 2);
    keyIs(at2, 1, 1, 0, 6, 4);
    due(at2.read(1, 1), 0);
    due(at2.slot(1, 12), 3);
    // Who does not only read falls at each begin.
    for (int begins = 2; begins <= 4; begins++) {
      Gate x = lastOutIsThree(3, begins);
      int slot = x.client(3, 5);
      due(x.slot(slot, 2), begins);
      due(x.read(slot, 1), NONE);
      due(x.log(0, 2), 1);
      due(x.led(3, false), 1);
    }
    // With LAST OUT 0, or LAST WRITTEN below its begin, nobody does.
    Gate y = lastOutIsThree(3, 4);
    due(y.read(3, 0), 0);
    due(y.slot(3, 12), 5);
    Gate z = lastOutIsThree(3, 4);
    z.begin(1);
    int late = z.client(1, 5);
    due(z.slot(late, 2), 7);
    due(z.read(late, 1), 1);
    due(z.slot(late, 12), 0);
  }

  @Says(promise = 13, value = "VERSION as SEEN (1 more, if it HAS WRITTEN it); NONE, if it is not RUNNING by that")
  static void whatAReadAnswers() {
    Gate x = of("client;client;" + lines("version 0 999", 10) + ";version 1 7");
    store(x, "version 0 8");
    x.begin(0);
    x.begin(1);
    due(x.read(0, 0), 9998);
    due(x.read(0, 1), 7);
    due(x.read(0, 2), 0);
    x.write(0, 0);
    x.write(0, 2);
    due(x.read(0, 0), 9999);
    due(x.read(0, 2), 1);
    x.commit(0);
    // As SEEN, not as it is.
    due(x.key(0, 0), 9999);
    due(x.read(1, 0), 9998);
    due(x.read(1, 2), 0);
    Gate y = lastOutIsThree(3, 4);
    due(y.read(3, 1), NONE);
    due(y.slot(3, 0), 0);
  }

  @Says({"VERSION as SEEN (1 more, if it HAS WRITTEN it)", "VERSION of each KEY that it HAS WRITTEN is 1 more (9999 at most)"})
  static void readOfAnOwnWriteAtTheLastVersion() {
    // The bound is one of VERSION, not of what read answers.
    Gate x = of("client;client;" + lines("version 0 999", 11) + ";version 1 1");
    x.begin(0);
    due(x.write(0, 0), true);
    due(x.read(0, 0), 10000);
    due(x.seen(0, 0), 9999);
    due(x.key(0, 0), 9999);
    due(x.write(0, 0), true);
    due(x.read(0, 0), 10000);
    due(x.begin(1), 1);
    due(x.read(1, 0), 9999);
    due(x.commit(0), 3);
    due(x.key(0, 0), 9999);
    due(x.version(0, 0, false), 9999);
    due(x.version(0, 0, true), 9999);
    due(x.read(1, 0), 9999);
    // Its VERSION is none other than that SEEN, so the next one may write it, too.
    due(x.write(1, 0), true);
    due(x.read(1, 0), 10000);
  }

  @Says("it WAITS (nothing comes of it), if another RUNNING one HAS WRITTEN it")
  static void waits() {
    Gate x = fleet(3);
    x.begin(0);
    x.begin(1);
    x.read(1, 0);
    due(x.write(0, 0), true);
    due(x.write(0, 0), true);
    refused(STATE, () -> x.write(1, 0));
    due(x.slot(1, 6), 0);
    due(x.running(), 3);
    due(x.dooms(1, 1, 0), 0);
    due(x.write(1, 1), true);
    refused(STATE, () -> x.write(0, 1));
    // Who HAS READ it, or was aborted, is not waited for.
    x.abort(0);
    due(x.write(1, 0), true);
    // Who has FINISHED is not either, but its version has become another one.
    Gate y = fleet(3);
    y.begin(0);
    y.begin(1);
    y.write(0, 0);
    y.commit(0);
    due(y.slot(0, 0), 2);
    due(y.write(1, 0), false);
    logIs(y, row(3, 0, 6, 0), row(3, 1, 2, 1));
    // It waits, though its version is another one already.
    Gate z = fleet(3);
    z.begin(0);
    z.begin(1);
    store(z, "version 0 1");
    z.begin(2);
    z.write(2, 0);
    refused(STATE, () -> z.write(1, 0));
    due(z.running(), 7);
  }

  @Says("If VERSION is another one than that SEEN: it is ABORTED (2)")
  static void anotherVersion() {
    Gate x = fleet(3);
    x.begin(0);
    store(x, "version 0 0");
    due(x.write(0, 0), true);
    store(x, "version 1 1");
    due(x.write(0, 2), true);
    due(x.write(0, 1), false);
    logIs(x, row(1, 0, 2, 0));
    due(x.client(0, 3), 1);
    due(x.slot(0, 0), 0);
    due(x.key(0, 4), NONE);
    // A version at its end is the same one still.
    Gate y = of("client;client;" + lines("version 0 999", 11));
    y.begin(0);
    y.begin(1);
    y.write(0, 0);
    y.commit(0);
    due(y.key(0, 0), 9999);
    due(y.write(1, 0), true);
  }

  @Says("Else it HAS WRITTEN it (all of this anew, if it had already); each CONCURRENT one that HAS READ it has an EDGE to it")
  static void edgesOfAWriter() {
    Gate x = fleet(6);
    x.begin(0);
    x.begin(1);
    x.begin(2);
    x.begin(3);
    x.read(1, 9);
    x.read(2, 9);
    x.read(0, 9);
    x.commit(2);
    due(x.write(0, 9), true);
    due(x.slot(0, 6), 512);
    // A FINISHED reader and a RUNNING one, not itself.
    due(x.slot(0, 8), 6);
    due(x.slot(1, 7), 1);
    due(x.slot(2, 7), 1);
    due(x.slot(0, 7), 0);
    due(x.write(0, 9), true);
    due(x.slot(0, 6), 512);
    due(x.count(8), 2);
    x.read(3, 9);
    due(x.slot(0, 8), 14);
  }

  @Says("if LAST READ of the KEY is above its BEGAN: INMAX is that, if that is more")
  static void lastReadAndBegan() {
    Gate x = fleet(0);
    x.begin(0);
    x.begin(1);
    x.begin(2);
    x.read(1, 3);
    due(x.commit(1), 4);
    due(x.begin(3), 1);
    keyIs(x, 3, 0, 4, 0, 0);
    // Begun at 3: LAST READ, 4, is one above. Begun at 5: it is one below.
    due(x.write(2, 3), true);
    due(x.slot(2, 13), 4);
    x.abort(2);
    due(x.write(1, 3), true);
    due(x.slot(1, 13), 0);
    // Not if it has more already: INMAX is 5 by the edge, LAST READ of key 3 is 3.
    for (int first = 0; first < 2; first++) {
      Gate y = fleet(0);
      y.begin(0);
      y.begin(1);
      y.read(1, 3);
      y.commit(1);
      if (first == 1) y.write(0, 3);
      due(y.slot(0, 13), first == 1 ? 3 : 0);
      y.begin(2);
      y.read(1, 5);
      y.write(0, 5);
      y.commit(1);
      due(y.slot(0, 13), 5);
      if (first == 0) y.write(0, 3);
      due(y.slot(0, 13), 5);
    }
  }

  @Says(promise = 14, value = "A SLOT writes: whether it is RUNNING then. IllegalStateException: it was not RUNNING, is ONLY, or WAITS")
  static void whatAWriteAnswers() {
    Gate x = fleet(3);
    x.begin(4);
    x.begin(0);
    refused(STATE, () -> x.write(0, 0));
    refused(STATE, () -> x.write(0, 9));
    due(x.slot(0, 6), 0);
    for (int key = 0; key < 10; key++) due(x.write(1, key), true);
    due(x.slot(1, 6), 1023);
    refused(STATE, () -> x.write(2, 0));
    x.commit(1);
    due(x.slot(1, 0), 2);
    refused(STATE, () -> x.write(1, 0));
    for (int key = 0; key < 10; key++) due(x.key(key, 0), 1);
  }

  @Says("VERSION of each KEY that it HAS WRITTEN is 1 more (9999 at most)")
  static void versionAtItsEnd() {
    Gate x = of("client;" + lines("version 0 999", 10) + ";version 9 999");
    store(x, "version 0 7");
    int[] versions = {9998, 9999, 9999, 9999};
    due(x.key(0, 0), 9997);
    for (int i = 0; i < versions.length; i++) {
      x.begin(0);
      x.write(0, 0);
      x.commit(0);
      due(x.key(0, 0), versions[i]);
      due(x.version(i, 0, true), versions[i]);
      due(x.key(1, 0), 0);
      due(x.key(9, 0), 999);
    }
  }

  @Says("PURSE is PAY (as it was ahead of all that) more (9999 at most)")
  static void purseAtItsEnd() {
    // Twenty commits of 481 each from 378, 379 or 380 on.
    for (int more = 0; more < 3; more++) {
      Gate x = of("client;purse " + (378 + more), lines("pay 40", 12));
      x.ticks(38);
      due(x.count(7), 378 + more + 19 * 481);
      x.ticks(2);
      due(x.count(7), Math.min(9999, 9998 + more));
      x.ticks(2);
      due(x.count(7), 9999);
    }
    // As it was ahead: the stamp, the retries, what it was to others.
    Gate y = of("client;client", "pay 1 if stamp<3;pay 2 if retried;pay 4 if age<1;pay 8 if stamp>2;pay 16 if age>0");
    y.begin(1);
    y.begin(0);
    y.abort(1);
    y.begin(0);
    due(y.count(5), 3);
    due(y.slot(1, 11), 15);
    y.commit(1);
    due(y.count(7), 15);
    y.commit(0);
    due(y.count(7), 40);
  }

  @Says("its CLIENT has DONE 1 more, RETRIES 0")
  static void doneAndRetries() {
    Gate x = of("client;client");
    x.begin(0);
    x.abort(0);
    x.begin(1);
    x.abort(0);
    x.begin(0);
    x.abort(0);
    due(x.client(0, 3), 2);
    due(x.commit(x.begin(0)), 5);
    due(x.client(0, 4), 1);
    due(x.client(0, 3), 0);
    due(x.client(1, 3), 1);
    due(x.client(1, 4), 0);
    due(x.count(10), 1);
    due(x.count(11), 1);
  }

  @Says("the SLOT is FREE, with all EDGES to it and from it; its CLIENT has RETRIES 1 more (99 at most)")
  static void retriesAtTheirEnd() {
    Gate x = of("client");
    for (int i = 1; i <= 101; i++) {
      x.begin(0);
      due(x.abort(0), 0);
      due(x.client(0, 3), Math.min(99, i));
    }
    x.begin(0);
    x.commit(0);
    due(x.client(0, 3), 0);
    // Edges to it and from it go; those of others stay.
    Gate y = fleet(3);
    for (int i = 0; i < 4; i++) y.begin(i);
    y.read(0, 0);
    y.write(1, 0);
    y.read(1, 1);
    y.write(2, 1);
    y.read(3, 5);
    y.write(2, 5);
    due(y.count(8), 3);
    due(y.abort(1), 1);
    due(y.count(8), 1);
    due(y.slot(0, 7) + y.slot(2, 7), 0);
    due(y.slot(2, 8), 8);
    due(y.slot(3, 7), 4);
    // None is left behind as OUTMIN or INMAX.
    for (int slot = 0; slot < 4; slot += 2) due(y.slot(slot, 12) + y.slot(slot, 13), 0);
  }

  @Says(promise = 15, value = "A SLOT commits: ENDED. IllegalStateException: it is not RUNNING")
  static void whatACommitAnswers() {
    Gate x = fleet(3);
    refused(STATE, () -> x.commit(0));
    x.begin(0);
    x.begin(1);
    due(x.commit(1), 3);
    due(x.slot(1, 3), 3);
    refused(STATE, () -> x.commit(1));
    refused(STATE, () -> x.commit(7));
    // ENDED, though the slot is FREE already.
    due(x.commit(0), 4);
    due(x.slot(0, 0), 0);
    refused(STATE, () -> x.commit(0));
  }

  @Says(promise = 16, value = "A SLOT is aborted: its CLIENT. IllegalStateException: it is not RUNNING")
  static void whatAnAbortAnswers() {
    Gate x = fleet(3);
    refused(STATE, () -> x.abort(0));
    x.begin(3);
    x.begin(0);
    due(x.abort(0), 3);
    refused(STATE, () -> x.abort(0));
    x.begin(2);
    x.commit(1);
    due(x.slot(1, 0), 2);
    refused(STATE, () -> x.abort(1));
    due(x.abort(0), 2);
    refused(STATE, () -> x.abort(7));
  }

  @Says("if it is not ONLY and its FIRST is above 0: each RUNNING one that is ONLY, whose BEGAN is above that FIRST and above its BEGAN, is SPOILT")
  static void spoiltByItsFirst() {
    // FIRST of client 1 is OUTMIN, 3, as it began at 2; the reader begins at 2, 3 or 4.
    for (int begins = 2; begins <= 4; begins++) {
      Gate x = fleet(6);
      x.keep(0);
      x.begin(0);
      if (begins == 2) x.begin(4);
      x.begin(1);
      if (begins == 3) x.begin(4);
      x.begin(2);
      if (begins == 4) x.begin(4);
      int reader = x.client(4, 5);
      int pivot = x.client(1, 5);
      int other = x.client(2, 5);
      due(x.slot(reader, 2), begins);
      x.write(other, 0);
      x.commit(other);
      x.read(pivot, 0);
      int first = x.slot(pivot, 9);
      due(first, begins == 2 ? 4 : 3);
      x.commit(pivot);
      due(x.slot(reader, 15), begins == 4 ? 1 : 0);
      due(x.slot(reader, 14), 0);
      // With no writer ahead of it the spoilt one is not SAFE, the other ones are.
      x.abort(0);
      due(x.slot(reader, 14), begins == 4 ? 0 : 1);
    }
  }

  @Says("if it is not ONLY and its FIRST is above 0")
  static void notSpoilt() {
    // A committing one that only reads spoils nobody, though it has a FIRST; nor does one without FIRST; nor are writers spoilt.
    Gate x = of("client;client;client only;client only;keep 6");
    x.begin(0);
    x.begin(1);
    x.begin(2);
    x.read(2, 0);
    x.write(1, 0);
    x.commit(1);
    x.begin(3);
    x.begin(1);
    due(x.slot(2, 9), 4);
    x.commit(2);
    due(x.slot(3, 15), 0);
    x.commit(4);
    due(x.slot(3, 15), 0);
    Gate y = of("client;client;client only;client;keep 6");
    y.begin(0);
    y.begin(1);
    y.read(0, 0);
    y.write(1, 0);
    y.commit(1);
    y.begin(2);
    y.begin(3);
    y.begin(1);
    due(y.slot(0, 9), 3);
    due(y.commit(0), 7);
    // Slot 1 has been forgotten by that.
    int[] spoilt = {0, NONE, 1, 0, 0};
    for (int slot = 0; slot < 5; slot++) due(y.slot(slot, 15), spoilt[slot]);
    // It stays so, finished too.
    y.commit(2);
    due(y.slot(2, 0), 2);
    due(y.slot(2, 15), 1);
  }

  @Says("Then DANGERS are met, then TIDY")
  static void tidyBehindEachAbort() {
    // The one that falls by its read began first; what it held is forgotten right behind it.
    Gate x = fleet(6);
    x.begin(0);
    x.begin(1);
    x.begin(2);
    x.read(1, 0);
    x.write(2, 0);
    x.commit(2);
    x.write(1, 1);
    x.keep(0);
    x.commit(1);
    due(x.key(1, 3), 4);
    x.keep(6);
    x.begin(1);
    x.commit(1);
    x.begin(1);
    due(x.finished(), 2);
    due(x.read(0, 1), NONE);
    due(x.finished(), 0);
    logIs(x, row(8, 1, 6, 1), row(8, 0, 1, 0));
    // By a write of another version.
    Gate y = fleet(6);
    y.begin(0);
    y.begin(1);
    store(y, "version 3 1");
    y.commit(1);
    y.begin(1);
    due(y.write(0, 3), false);
    due(y.finished(), 0);
    logIs(y, row(4, 1, 6, 1), row(4, 0, 2, 0), row(3, 1, 0, 1));
  }

  @Says("COMMIT of a RUNNING SLOT: STAMP is 1 more, ENDED is STAMP, it is FINISHED")
  static void whatComesOfACommit() {
    Gate x = fleet(6);
    x.begin(0);
    x.begin(1);
    x.read(1, 0);
    x.write(1, 9);
    due(x.count(5), 2);
    due(x.commit(1), 3);
    due(x.count(5), 3);
    slotIs(x, 1, 2, 1, 2, 3, 1, 1, 512);
    due(x.count(9), 1);
    due(x.history(0, 0), 1);
    due(x.history(0, 1), 3);
    due(x.history(0, 2), 1);
    due(x.history(0, 3), 512);
    due(x.version(0, 9, true), 1);
    due(x.count(7), 1);
    logIs(x, row(3, 1, 0, 1));
    due(x.count(12), 1);
  }

  @Says("if it is not ONLY and its FIRST is above 0: each RUNNING one that is ONLY")
  static void besideOneThatOnlyReads() {
    // The one that commits is not ONLY, the slot right behind it is: that is SPOILT.
    Gate x = fleet(0);
    x.begin(0);
    x.read(0, 0);
    x.begin(1);
    x.write(1, 0);
    x.commit(1);
    due(x.begin(4), 1);
    x.begin(2);
    x.commit(0);
    due(x.slot(1, 15), 1);
    due(x.slot(2, 15), 0);
    // The one that commits is ONLY, the slot right behind it is not: nobody is SPOILT.
    Gate y = of("client;client;client only;client only;keep 6");
    y.begin(0);
    y.begin(1);
    y.begin(2);
    y.read(2, 0);
    y.write(1, 0);
    y.commit(1);
    due(y.begin(1), 3);
    due(y.begin(3), 4);
    due(y.slot(2, 9), 4);
    y.commit(2);
    due(y.slot(4, 15), 0);
  }

  @Says("each RUNNING one that is ONLY, whose BEGAN is above that FIRST and above its BEGAN, is SPOILT")
  static void spoiltInTheFirstAndTheLastSlot() {
    // Slot 1 reads what slot 2 writes; slot 0 is used again by one that only reads, begun behind that.
    Gate x = fleet(6);
    x.begin(3);
    x.begin(0);
    x.begin(1);
    x.read(1, 0);
    x.write(2, 0);
    x.commit(2);
    x.abort(0);
    due(x.begin(4), 0);
    x.commit(1);
    due(x.slot(0, 15), 1);
    due(x.slot(0, 14), 0);
    // The same with all slots used, the reader in the last one.
    Gate y = of("client;client;client only;keep 6");
    y.begin(0);
    y.read(0, 0);
    y.begin(1);
    y.write(1, 0);
    y.commit(1);
    for (int i = 2; i <= 6; i++) y.commit(y.begin(1));
    due(y.begin(2), 7);
    y.commit(0);
    due(y.slot(7, 15), 1);
    // Two of them at once.
    Gate z = of("client;client;client only;client only;keep 6");
    z.begin(0);
    z.read(0, 0);
    z.begin(2);
    z.begin(1);
    z.write(2, 0);
    z.commit(2);
    z.abort(1);
    due(z.begin(3), 1);
    due(z.begin(2), 3);
    z.commit(0);
    due(z.slot(1, 15) + z.slot(3, 15), 2);
  }
}
