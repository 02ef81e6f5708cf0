/** The terms of DANGER, of who falls by one, and promise 18: what would fall. */
final class DangerEdges extends Bench {
  private static Gate fleet(int keep) { return of("client;client;client;client;client only;keep " + keep); }

  @Says("DANGER of a SLOT P and who is ahead of it: FIRST of P is above 0, and below ENDED of P, if P is FINISHED")
  static void firstAndItsOwnEnd() {
    // Slot 0 reads what slot 1 writes, which reads what slot 2 writes.
    Gate later = row3();
    due(later.commit(1), 4);
    due(later.commit(2), 5);
    // FIRST of the FINISHED one, 5, is above its ENDED, 4.
    due(later.slot(1, 9), 5);
    due(later.running(), 1);
    due(later.count(11), 0);
    due(later.commit(0), 6);
    // Without a FIRST there is none, whoever is ahead.
    Gate none = row3();
    due(none.slot(1, 9), 0);
    due(none.running(), 7);
    // FIRST below: the one ahead is met when it comes to read what the FINISHED one has written.
    Gate x = fleet(6);
    for (int i = 0; i < 3; i++) x.begin(i);
    x.read(1, 1);
    x.write(2, 1);
    x.commit(2);
    due(x.write(1, 0), true);
    due(x.commit(1), 5);
    due(x.slot(1, 9), 4);
    due(x.read(0, 0), NONE);
    logIs(x, row(5, 1, 6, 1), row(5, 2, 6, 2), row(5, 0, 3, 0));
    due(x.led(0, false), 1);
    due(x.led(1, false), 0);
  }

  /** Three slots: 0 has an edge to 1, and 1 to 2; all run. */
  private static Gate row3() {
    Gate x = fleet(6);
    for (int i = 0; i < 3; i++) x.begin(i);
    x.read(0, 0);
    x.write(1, 0);
    x.read(1, 1);
    x.write(2, 1);
    return x;
  }

  @Says("A or P is RUNNING")
  static void oneOfThemRuns() {
    // With both RUNNING and BLAME alike P falls.
    Gate both = row3();
    both.commit(2);
    due(both.running(), 1);
    due(both.led(1, false), 1);
    // A FINISHED: P falls, though it has no BLAME; ENDED of A is above FIRST.
    Gate p = of("client;client;client;keep 6", "spare 40");
    p.begin(0);
    p.begin(1);
    p.begin(2);
    p.read(1, 1);
    p.read(0, 0);
    p.write(2, 1);
    p.commit(2);
    p.commit(0);
    due(p.slot(0, 3), 5);
    due(p.write(1, 0), false);
    due(p.led(1, false), 1);
    // The one RUNNING falls, whichever the FINISHED one's BLAME is: A is FINISHED here, then P.
    Gate a = of("client;client;client;keep 6", "blame 40 if slot<1");
    a.begin(0);
    a.begin(1);
    a.begin(2);
    a.read(1, 1);
    a.read(0, 0);
    a.write(2, 1);
    a.commit(2);
    a.commit(0);
    due(a.slot(0, 10), 50);
    due(a.write(1, 0), false);
    due(a.led(1, false), 1);
    due(a.led(0, false), 0);
    Gate f = of("client;client;client;keep 6", "blame 40 if slot>0");
    f.begin(0);
    f.begin(1);
    f.begin(2);
    f.read(1, 1);
    f.write(2, 1);
    f.commit(2);
    f.write(1, 0);
    f.commit(1);
    due(f.read(0, 0), NONE);
    due(f.led(0, false), 1);
    due(f.led(1, false), 0);
    // Both FINISHED: there is none, though the edges stand.
    Gate none = row3();
    none.begin(3);
    none.commit(0);
    none.commit(1);
    none.commit(2);
    due(none.finished(), 7);
    due(none.slot(1, 9), 7);
    due(none.count(11), 0);
  }

  @Says("FIRST of P is at most ENDED of A, if A is FINISHED, and below BEGAN of A, if A is ONLY")
  static void firstAndTheEndAhead() {
    // A and who is first are one: FIRST is ENDED of A.
    Gate one = fleet(6);
    one.begin(0);
    one.begin(1);
    one.read(0, 0);
    one.read(1, 1);
    one.write(1, 0);
    due(one.commit(1), 3);
    due(one.slot(0, 9), 3);
    due(one.write(0, 1), false);
    due(one.log(1, 2), 3);
    // A ends one ahead of who is first: no danger; one behind: a danger.
    for (int aheadEnds = 0; aheadEnds < 2; aheadEnds++) {
      Gate x = fleet(6);
      x.begin(0);
      x.begin(1);
      x.begin(2);
      x.read(0, 0);
      x.read(1, 1);
      x.write(2, 0);
      x.commit(aheadEnds == 0 ? 1 : 2);
      x.commit(aheadEnds == 0 ? 2 : 1);
      due(x.slot(0, 9), aheadEnds == 0 ? 5 : 4);
      due(x.write(0, 1), aheadEnds == 0);
      due(x.slot(0, 0), aheadEnds == 0 ? 1 : 0);
    }
  }

  @Says("and below BEGAN of A, if A is ONLY")
  static void firstAndTheBeginAhead() {
    // FIRST of client 1 is OUTMIN, one more than its BEGAN; the reader ahead begins at that, one above or one below.
    for (int ahead = 0; ahead < 2; ahead++) {
      int reader = ahead == 0 ? 4 : 3;
      for (int begins = 2; begins <= 4; begins++) {
        Gate x = fleet(0);
        x.begin(0);
        if (begins == 2) x.begin(reader);
        x.begin(1);
        if (begins == 3) x.begin(reader);
        x.begin(2);
        if (begins == 4) x.begin(reader);
        int slot = x.client(reader, 5);
        int pivot = x.client(1, 5);
        int other = x.client(2, 5);
        x.write(other, 0);
        x.commit(other);
        x.read(pivot, 0);
        x.read(slot, 1);
        due(x.slot(slot, 2), begins);
        due(x.slot(pivot, 9), begins == 2 ? 4 : 3);
        // Who does not only read is in danger whenever it began.
        boolean danger = ahead == 1 || begins == 4;
        due(x.write(pivot, 1), !danger);
        due(x.slot(slot, 0), 1);
      }
    }
  }

  @Says("or none (P is RUNNING, INMAX of P is above 0 and FIRST of P is at most INMAX)")
  static void firstAndInmax() {
    // Both by one that was summarised: FIRST is INMAX, 3.
    Gate alike = fleet(0);
    alike.begin(0);
    alike.begin(1);
    alike.read(0, 0);
    alike.read(1, 1);
    alike.write(1, 0);
    alike.commit(1);
    due(alike.slot(0, 9), 3);
    due(alike.slot(0, 0), 1);
    due(alike.write(0, 1), false);
    due(alike.log(0, 2), 3);
    // INMAX is 4 and FIRST 5, or the other way round.
    for (int reads = 0; reads < 2; reads++) {
      Gate x = fleet(0);
      x.begin(0);
      x.begin(1);
      x.begin(2);
      x.read(0, 0);
      x.read(1, 1);
      x.write(2, 0);
      x.commit(reads == 0 ? 1 : 2);
      x.commit(reads == 0 ? 2 : 1);
      due(x.slot(0, 9), reads == 0 ? 5 : 4);
      due(x.write(0, 1), reads == 0);
      due(x.slot(0, 0), reads == 0 ? 1 : 0);
      if (reads == 0) due(x.slot(0, 13), 4);
    }
    // Who only reads, begun ahead of FIRST, makes no danger as an A; once it is summarised its end is INMAX, as each other's.
    for (int keep = 0; keep <= 6; keep += 6) {
      Gate x = fleet(keep);
      x.begin(0);
      x.begin(4);
      x.begin(1);
      x.read(0, 0);
      x.read(1, 1);
      x.write(2, 0);
      due(x.commit(2), 4);
      due(x.commit(1), 5);
      due(x.slot(0, 9), 4);
      due(x.write(0, 1), keep == 6);
      due(x.slot(0, 13), keep == 6 ? 0 : NONE);
    }
    // Without INMAX, FIRST alone is none; without FIRST, INMAX alone is none.
    Gate first = fleet(0);
    first.begin(0);
    first.read(0, 0);
    first.begin(1);
    first.write(1, 0);
    first.commit(1);
    due(first.write(0, 1), true);
    due(first.slot(0, 9), 3);
    Gate in = fleet(0);
    in.begin(0);
    in.begin(1);
    in.read(1, 1);
    in.commit(1);
    due(in.write(0, 1), true);
    due(in.slot(0, 13), 3);
  }

  @Says("the one RUNNING of A and P (of both the one of more BLAME, P, if these are alike; with none ahead P) is ABORTED (3)")
  static void moreBlame() {
    // P is slot 1, A is slot 0; A is blamed by one less, alike, and by one more.
    String[] laws = {"spare 1 if slot<1", "spare 1", "blame 1 if slot<1", "blame 40 if slot>0", "spare 40;blame 5", "blame 2 if writes<1"};
    int[] falls = {1, 1, 0, 1, 1, 0};
    for (int i = 0; i < laws.length; i++) {
      Gate x = row3();
      law(x, laws[i]);
      x.commit(2);
      due(x.led(falls[i], false), 1, line() + ", led by '" + laws[i] + "'");
      due(x.led(1 - falls[i], false), 0, line() + ", led by '" + laws[i] + "'");
      due(x.client(1 - falls[i], 5), 1 - falls[i]);
    }
    // BLAME as it is by then: the stamp is 4 by the commit, and slot 0 had no retry ahead of it.
    String[] by = {"blame 1 if slot<1 and stamp>3", "blame 1 if slot<1 and stamp<4", "blame 1 if slot<1 and age>2", "blame 1 if slot<1 and retried"};
    int[] by4 = {0, 1, 0, 1};
    for (int i = 0; i < by.length; i++) {
      Gate x = row3();
      law(x, by[i]);
      x.commit(2);
      due(x.led(by4[i], false), 1, line() + ", led by '" + by[i] + "'");
    }
    // BLAME 0 of both is alike.
    Gate zero = row3();
    law(zero, "spare 40;spare 5 if slot>0");
    zero.commit(2);
    due(zero.running(), 1);
  }

  @Says("of the least P, and to that none ahead of the least A")
  static void theLeastFirst() {
    // Slots 1 and 2 are pivots, slot 0 ahead of both, slot 3 commits: the least P falls first.
    for (int blamed = 0; blamed < 2; blamed++) {
      Gate x = fleet(6);
      for (int i = 0; i < 4; i++) x.begin(i);
      x.read(0, 1);
      x.read(0, 2);
      x.write(1, 1);
      x.write(2, 2);
      x.read(1, 5);
      x.read(2, 6);
      x.write(3, 5);
      x.write(3, 6);
      law(x, blamed == 0 ? "" : "blame 1 if slot<1");
      due(x.commit(3), 5);
      due(x.running(), blamed == 0 ? 1 : 6);
      if (blamed == 0) logIs(x, row(5, 2, 3, 2), row(5, 1, 3, 1), row(5, 3, 0, 3));
      else logIs(x, row(5, 0, 3, 0), row(5, 3, 0, 3));
    }
    // Slot 1 is the pivot; slots 0 and 2 are ahead of it. The least A is met first: slot 0 falls, or P by it.
    String[] laws = {"", "blame 1 if slot<1", "blame 1 if slot>1", "blame 1;spare 1 if slot>0 and slot<2"};
    int[] runs = {5, 4, 5, 2};
    for (int i = 0; i < laws.length; i++) {
      Gate x = fleet(6);
      for (int c = 0; c < 4; c++) x.begin(c);
      x.read(0, 1);
      x.read(2, 1);
      x.write(1, 1);
      x.read(1, 5);
      x.write(3, 5);
      law(x, laws[i]);
      x.commit(3);
      due(x.running(), runs[i], line() + ", running by '" + laws[i] + "'");
    }
    // With none ahead needed P falls, though there is an A of more BLAME: INMAX and FIRST are both 4.
    Gate none = fleet(0);
    law(none, "blame 1 if slot>1");
    for (int c = 0; c < 3; c++) none.begin(c);
    none.read(0, 0);
    none.read(1, 1);
    none.write(1, 0);
    none.read(2, 1);
    due(none.commit(1), 4);
    due(none.write(0, 1), false);
    due(none.running(), 4);
    due(none.led(2, false), 0);
  }

  @Says("DANGERS are met: again and again, as long as there is one")
  static void againAndAgain() {
    // Three pivots, slots 1 to 3, each between slot 0 and slot 4, fall by one commit.
    Gate x = of("client;client;client;client;client;keep 6");
    for (int i = 0; i < 5; i++) x.begin(i);
    for (int i = 1; i < 4; i++) {
      x.read(0, i);
      x.write(i, i);
      x.read(i, 9);
    }
    x.write(4, 9);
    due(x.commit(4), 6);
    due(x.running(), 1);
    logIs(x, row(6, 3, 3, 3), row(6, 2, 3, 2), row(6, 1, 3, 1), row(6, 4, 0, 4));
    due(x.count(11), 3);
    due(x.commit(0), 7);
  }

  @Says(promise = 18, value = "DOOMS, as bits. IllegalArgumentException: what is none (0 to 2); IllegalStateException: it is not RUNNING")
  static void whatIsNone() {
    Gate x = row3();
    due(x.dooms(2, 2, 0), 2);
    due(x.dooms(2, 0, 9), 0);
    due(x.dooms(2, 1, 9), 0);
    refused(ARGUMENT, () -> x.dooms(2, 3, 0));
    refused(ARGUMENT, () -> x.dooms(2, -1, 0));
    refused(STATE, () -> x.dooms(3, 0, 0));
    x.commit(1);
    refused(STATE, () -> x.dooms(1, 2, 0));
    due(x.dooms(2, 2, 0), 0);
  }

  @Says("a KEY (of no matter for 2): the SLOTS that would be ABORTED by that, as bits (0 also, if it would WAIT, or is ONLY and would WRITE)")
  static void dooms() {
    Gate x = row3();
    for (int key : new int[] {-1, 0, 9, 10, Integer.MIN_VALUE, Integer.MAX_VALUE}) due(x.dooms(2, 2, key), 2);
    due(x.dooms(0, 1, 0), 0);
    due(x.dooms(0, 1, 1), 0);
    // Nothing has come of any of these.
    due(x.running(), 7);
    due(x.count(5), 3);
    due(x.count(12), 0);
    due(x.count(8), 2);
    law(x, "blame 3 if slot<1");
    due(x.dooms(2, 2, 10), 1);
    // ABORTED (1) and (2) of itself, and of another one by a read or a write.
    Gate y = fleet(3);
    y.begin(0);
    y.begin(4);
    store(y, "version 3 1");
    due(y.dooms(0, 1, 3), 1);
    due(y.dooms(0, 0, 3), 0);
    due(y.dooms(1, 1, 3), 0);
    due(y.dooms(1, 1, 4), 0);
    due(y.write(0, 3), false);
    Gate z = fleet(0);
    z.begin(0);
    z.begin(1);
    z.begin(2);
    z.read(1, 0);
    z.write(2, 0);
    z.commit(2);
    z.begin(2);
    z.write(1, 1);
    due(z.commit(1), 6);
    due(z.key(1, 3), 4);
    due(z.dooms(2, 0, 1), 4);
    due(z.dooms(0, 0, 1), 1);
    due(z.dooms(0, 0, 0), 0);
    due(z.read(2, 1), NONE);
    // By its own commit it is FINISHED, not ABORTED; with the last one running all are forgotten.
    Gate w = fleet(3);
    w.begin(0);
    due(w.dooms(0, 2, 0), 0);
    due(w.slot(0, 0), 1);
  }

  @Says("CUT: the fewest RUNNING SLOTS without which no RUNNING one has both an EDGE to it and one from it (by EDGES alone, those to and from FINISHED ones, too; of several the least as bits)")
  static void theFewest() {
    due(new Gate().cut(), 0);
    Gate x = row3();
    // Each of the three would do.
    due(x.cut(), 1);
    x.begin(3);
    x.read(3, 0);
    // Two are ahead now: the pivot or the last one.
    due(x.cut(), 2);
    x.abort(3);
    x.abort(0);
    due(x.cut(), 0);
    // The last one has FINISHED: FIRST and who goes ahead in both, and the pivot between edges of FINISHED ones.
    Gate y = fleet(6);
    for (int i = 0; i < 3; i++) y.begin(i);
    y.read(0, 0);
    y.write(1, 0);
    y.commit(0);
    y.read(1, 1);
    due(y.cut(), 0);
    y.write(2, 1);
    // Slot 0 can be left out no more.
    due(y.cut(), 2);
    y.commit(2);
    due(y.finished(), 5);
    due(y.slot(1, 0), 1);
    due(y.cut(), 2);
    // OUTMIN and INMAX are no edges.
    y.keep(0);
    due(y.slot(1, 12), 5);
    due(y.slot(1, 13), 4);
    due(y.pivots(), 2);
    due(y.cut(), 0);
    // A FINISHED one between two RUNNING ones is no matter.
    Gate z = row3();
    z.commit(1);
    due(z.pivots(), 2);
    due(z.cut(), 0);
    // Two rows apart need one each.
    Gate two = of("client;client;client;client;client");
    for (int i = 0; i < 5; i++) two.begin(i);
    two.read(0, 0);
    two.write(1, 0);
    two.read(1, 1);
    two.write(0, 1);
    two.read(2, 2);
    two.write(3, 2);
    two.read(3, 3);
    two.write(4, 3);
    due(two.cut(), 5);
    two.read(4, 9);
    two.write(2, 9);
    due(two.cut(), 5);
  }

  @Says(promise = 20, value = "CUT, as bits")
  static void cutOfTheLastSlot() {
    // Slots 0 to 4 run, 5 and 6 have FINISHED; slot 7 is the pivot between slots 0 and 1, with one more on each side.
    Gate x = of("client;client;client;client;client;keep 6");
    for (int i = 0; i < 5; i++) x.begin(i);
    x.commit(4);
    x.commit(x.begin(4));
    x.commit(x.begin(4));
    due(x.begin(4), 7);
    x.read(0, 0);
    x.read(1, 0);
    x.write(7, 0);
    due(x.cut(), 0);
    x.read(7, 1);
    x.write(2, 1);
    due(x.cut(), 4);
    x.read(7, 2);
    x.write(3, 2);
    due(x.cut(), 128);
  }

  @Says("without which no RUNNING one has both an EDGE to it and one from it")
  static void cutOfTheFirstSlot() {
    // Slot 0 is between slots 1 and 2 on the one side and 3 and 4 on the other one.
    Gate x = of("client;client;client;client;client");
    for (int i = 0; i < 5; i++) x.begin(i);
    x.read(1, 0);
    x.read(2, 0);
    x.write(0, 0);
    x.read(0, 3);
    x.read(0, 4);
    x.write(3, 3);
    x.write(4, 4);
    due(x.slot(0, 8), 6);
    due(x.slot(0, 7), 24);
    due(x.cut(), 1);
    due(x.pivots(), 1);
    // Nor is a danger of the first slot, or of the last one, left out.
    due(x.dooms(3, 2, 0), 1);
    x.commit(3);
    due(x.running(), 22);
    Gate y = of("client;client;client;client;client;keep 6");
    for (int i = 0; i < 5; i++) y.begin(i);
    for (int i = 1; i < 4; i++) y.commit(y.client(4, 5) == NONE ? y.begin(4) : y.client(4, 5));
    due(y.begin(4), 7);
    y.read(0, 0);
    y.write(7, 0);
    y.read(7, 1);
    y.write(1, 1);
    due(y.cut(), 1);
    due(y.pivots(), 128);
    due(y.dooms(1, 2, 0), 128);
    y.commit(1);
    due(y.client(4, 5), NONE);
    due(y.running(), 13);
  }
}
