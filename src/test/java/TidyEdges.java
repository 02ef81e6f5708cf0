/** Promise 17 and the terms of TIDY, of LEAVING, of THE LOG and of its rows: what is kept, summarised and forgotten. */
final class TidyEdges extends Bench {
  private static Gate fleet(int keep) { return of("client;client;client;client;client only;keep " + keep); }

  @Says("TIDY: FINISHED ones whose ENDED is below BEGAN of all RUNNING ones (all, if none is RUNNING), in the order of ENDED, are FORGOTTEN: they LEAVE")
  static void forgotten() {
    // Client 1 ends at 3; client 2 begins at 4, right behind it.
    Gate x = fleet(6);
    x.begin(0);
    x.begin(1);
    x.write(1, 0);
    x.commit(1);
    x.begin(2);
    due(x.slot(1, 0), 2);
    x.abort(0);
    due(x.slot(1, 0), 0);
    due(x.log(0, 2), 6);
    // It ends at 4; client 2 began at 3, right ahead of it.
    Gate y = fleet(6);
    y.begin(0);
    y.begin(1);
    y.begin(2);
    y.write(1, 0);
    y.commit(1);
    y.abort(0);
    due(y.slot(1, 0), 2);
    due(y.log(0, 2), 4);
    y.abort(2);
    due(y.slot(1, 0), 0);
    // Of what was forgotten no LAST READ, LAST WRITTEN or LAST OUT stays.
    keyIs(y, 0, 1, 0, 0, 0, NONE);
    // All, if none is RUNNING, in the order of ENDED, not of SLOTS.
    Gate z = of("client;client;client;client;client");
    for (int i = 0; i < 5; i++) z.begin(i);
    z.keep(6);
    z.commit(3);
    z.commit(1);
    z.commit(4);
    z.commit(2);
    due(z.finished(), 30);
    due(z.commit(0), 10);
    due(z.finished(), 0);
    logIs(z, row(10, 0, 6, 0), row(10, 2, 6, 2), row(10, 4, 6, 4), row(10, 1, 6, 1), row(10, 3, 6, 3), row(10, 0, 0, 0));
    // Of several some: those that ended ahead of the next begin.
    Gate w = fleet(6);
    w.begin(0);
    w.begin(1);
    w.begin(2);
    w.commit(1);
    w.begin(3);
    w.commit(2);
    w.commit(0);
    due(w.finished(), 5);
    logIs(w, row(7, 1, 6, 1), row(7, 0, 0, 0));
  }

  @Says("as long as there are more FINISHED ones than KEEP, the one of the least ENDED is SUMMARISED")
  static void moreThanKeep() {
    for (int keep = 0; keep <= 6; keep++) {
      Gate x = of("client;client");
      due(x.keep(keep), 3);
      x.begin(0);
      for (int i = 1; i <= 7; i++) {
        int slot = x.begin(1);
        x.commit(slot);
        due(x.count(2), Math.min(keep, i), line() + ", kept of " + i + " by KEEP " + keep);
        due(x.count(12), i + Math.max(0, i - keep));
      }
      // The oldest went: of the slots from 1 to one more than KEEP, by turns.
      due(x.log(0, 2), 5);
      due(x.log(0, 3), (6 - keep) % (keep + 1) + 1);
    }
    // The least ENDED, not the least SLOT.
    Gate y = of("client;client;client;client");
    for (int i = 0; i < 4; i++) y.begin(i);
    y.commit(3);
    y.commit(1);
    y.commit(2);
    due(y.finished(), 14);
    y.keep(2);
    due(y.finished(), 6);
    y.keep(1);
    due(y.finished(), 4);
    y.keep(0);
    due(y.finished(), 0);
    logIs(y, row(7, 2, 5, 2), row(7, 1, 5, 1), row(7, 3, 5, 3));
    // Several by one act, in the same order.
    Gate z = of("client;client;client;client");
    for (int i = 0; i < 4; i++) z.begin(i);
    z.commit(3);
    z.commit(1);
    z.commit(2);
    z.keep(0);
    logIs(z, row(7, 2, 5, 2), row(7, 1, 5, 1), row(7, 3, 5, 3), row(7, 2, 0, 2));
  }

  @Says("are FORGOTTEN: they LEAVE; then, as long as there are more FINISHED ones than KEEP")
  static void forgottenAheadOfSummarised() {
    // Three FINISHED with KEEP 3; by one act a fourth one comes, and one can be forgotten: none is summarised.
    Gate x = fleet(3);
    x.begin(0);
    x.begin(1);
    x.read(1, 1);
    x.commit(1);
    x.begin(2);
    x.begin(3);
    for (int i = 0; i < 2; i++) x.commit(x.begin(1));
    due(x.count(2), 3);
    due(x.commit(0), 10);
    due(x.count(2), 3);
    logIs(x, row(10, 1, 6, 1), row(10, 0, 0, 0));
    keyIs(x, 1, 0, 0, 0, 0);
  }

  @Says("of each KEY that it HAS READ, LAST READ is its ENDED (if that is more); of each that it HAS WRITTEN, LAST WRITTEN is its ENDED (if that is more)")
  static void lastReadAndWritten() {
    Gate x = fleet(0);
    x.begin(0);
    x.begin(1);
    x.read(1, 0);
    x.read(1, 9);
    x.write(1, 9);
    x.write(1, 5);
    x.read(1, 5);
    x.commit(1);
    keyIs(x, 0, 0, 3, 0, 0);
    keyIs(x, 9, 1, 3, 3, 0);
    // Its own write it HAS LOOKED at, not READ.
    keyIs(x, 5, 1, 0, 3, 0);
    keyIs(x, 4, 0, 0, 0, 0);
    x.begin(2);
    x.read(1, 9);
    x.commit(1);
    keyIs(x, 9, 1, 5, 3, 0);
    keyIs(x, 0, 0, 3, 0, 0);
  }

  @Says("if its FIRST is above 0 and below its ENDED, LAST OUT is that FIRST (if LAST OUT is 0, or above it); then it LEAVES")
  static void lastOut() {
    // FIRST one above ENDED, or one below it.
    for (int below = 0; below < 2; below++) {
      Gate x = fleet(6);
      for (int i = 0; i < 3; i++) x.begin(i);
      x.read(1, 0);
      x.write(2, 0);
      x.write(1, 1);
      x.write(1, 2);
      x.read(1, 3);
      x.commit(below == 0 ? 1 : 2);
      x.commit(below == 0 ? 2 : 1);
      due(x.slot(1, 9), below == 0 ? 5 : 4);
      due(x.slot(1, 3), below == 0 ? 4 : 5);
      x.keep(0);
      keyIs(x, 1, 1, 0, below == 0 ? 4 : 5, below == 0 ? 0 : 4);
      keyIs(x, 2, 1, 0, below == 0 ? 4 : 5, below == 0 ? 0 : 4);
      keyIs(x, 3, 0, below == 0 ? 4 : 5, 0, 0);
      keyIs(x, 0, 1, below == 0 ? 4 : 5, below == 0 ? 5 : 4, 0);
    }
    // Without FIRST, LAST OUT stays 0.
    Gate none = fleet(0);
    none.begin(0);
    none.begin(1);
    none.write(1, 1);
    none.commit(1);
    keyIs(none, 1, 1, 0, 3, 0);
    // A later FIRST, 9, does not take the place of an earlier one, 4.
    Gate late = fleet(0);
    late.begin(0);
    for (int i = 0; i < 2; i++) {
      late.begin(1);
      late.begin(2);
      late.read(1, 4 + i);
      late.write(2, 4 + i);
      late.commit(2);
      late.write(1, 1);
      late.commit(1);
      keyIs(late, 1, i + 1, 0, i == 0 ? 5 : 9, 4);
    }
    // Nor does a writer without FIRST, nor one with a FIRST above its ENDED.
    late.begin(1);
    late.write(1, 1);
    due(late.commit(1), 11);
    keyIs(late, 1, 3, 0, 11, 4);
    late.keep(6);
    late.begin(1);
    late.begin(2);
    late.read(1, 6);
    late.write(2, 6);
    late.write(1, 1);
    due(late.commit(1), 14);
    due(late.commit(2), 15);
    late.keep(0);
    keyIs(late, 1, 4, 0, 14, 4);
    // An earlier one does: both began ahead of both commits, which a version at its end allows.
    Gate early = of("client;client;client;client;client;" + lines("version 1 999", 9));
    store(early, lines("version 1 999", 2) + ";keep 0");
    for (int i = 0; i < 5; i++) early.begin(i);
    early.read(1, 4);
    early.read(2, 5);
    early.write(3, 5);
    early.write(4, 4);
    due(early.commit(4), 6);
    due(early.commit(3), 7);
    due(early.slot(2, 12), 7);
    due(early.slot(1, 12), 6);
    early.write(2, 1);
    due(early.commit(2), 8);
    keyIs(early, 1, 9999, 0, 8, 7);
    early.write(1, 1);
    due(early.commit(1), 9);
    keyIs(early, 1, 9999, 0, 9, 6);
  }

  @Says("To LEAVE: of each SLOT with an EDGE to it OUTMIN is its ENDED (if OUTMIN is 0, or above it); of each to which it has an EDGE INMAX is its ENDED (if that is more); the SLOT is FREE, its EDGES are no more")
  static void leaving() {
    // Slot 1 is read behind by 0 and 2, and has edges to 3; it leaves for want of room.
    Gate x = of("client;client;client;client;keep 6");
    for (int i = 0; i < 4; i++) x.begin(i);
    x.read(0, 0);
    x.read(2, 0);
    x.write(1, 0);
    x.read(1, 1);
    x.write(3, 1);
    x.read(0, 5);
    x.write(3, 5);
    due(x.count(8), 4);
    due(x.commit(1), 5);
    due(x.count(8), 4);
    x.keep(0);
    due(x.count(8), 1);
    due(x.slot(1, 0), 0);
    int[] outMin = {5, NONE, 5, 0};
    int[] inMax = {0, NONE, 0, 5};
    int[] from = {8, NONE, 0, 0};
    int[] to = {0, NONE, 0, 1};
    for (int slot = 0; slot < 4; slot++) slotEdgesAre(x, slot, outMin[slot], inMax[slot], from[slot], to[slot]);
    due(x.slot(0, 9), 5);
    // Another one that leaves later: OUTMIN stays the least, INMAX is the greatest.
    x.keep(6);
    x.begin(1);
    due(x.slot(1, 2), 6);
    x.read(1, 7);
    x.write(3, 7);
    x.write(1, 8);
    x.abort(2);
    x.read(0, 8);
    due(x.commit(1), 7);
    x.keep(0);
    slotEdgesAre(x, 0, 5, 0, 8, 0);
    slotEdgesAre(x, 3, 0, 7, 0, 1);
    // OUTMIN by a read may lie below each ENDED, and stays.
    Gate y = fleet(0);
    y.begin(0);
    y.begin(1);
    y.write(1, 0);
    y.commit(1);
    y.read(0, 0);
    due(y.slot(0, 12), 2);
    y.read(0, 3);
    y.begin(1);
    y.write(1, 3);
    due(y.commit(1), 5);
    due(y.slot(0, 12), 2);
    due(y.slot(0, 9), 2);
    // FINISHED ones get both, too; forgotten ones leave both.
    Gate z = fleet(6);
    for (int i = 0; i < 3; i++) z.begin(i);
    z.read(1, 0);
    z.write(2, 0);
    z.commit(2);
    z.begin(3);
    z.commit(1);
    z.commit(0);
    due(z.log(0, 2), 6);
    due(z.slot(1, 0), 2);
    slotEdgesAre(z, 1, 4, 0, 0, 0);
    due(z.slot(1, 9), 4);
  }

  private static void slotEdgesAre(Gate x, int slot, int outMin, int inMax, int from, int to) {
    int[] what = {12, 13, 7, 8};
    int[] want = {outMin, inMax, from, to};
    for (int i = 0; i < 4; i++) due(x.slot(slot, what[i]), want[i], line() + ", slot(" + slot + ", " + what[i] + ")");
  }

  @Says(promise = 17, value = "KEEP is told: what it was. IllegalArgumentException: n is none (0 to 6)")
  static void keepAnswers() {
    Gate x = new Gate();
    due(x.keep(0), 3);
    due(x.keep(6), 0);
    due(x.keep(6), 6);
    due(x.keep(1), 6);
    refused(ARGUMENT, () -> x.keep(-1));
    refused(ARGUMENT, () -> x.keep(7));
    refused(ARGUMENT, () -> x.keep(Integer.MIN_VALUE));
    refused(ARGUMENT, () -> x.keep(Integer.MAX_VALUE));
    due(x.count(6), 1);
    due(x.count(13), 4);
    due(x.keep(2), 1);
  }

  @Says("THE LOG: the latest 60 commits (0; STAMP as it is by that), aborts (1 to 4 as above), SUMMARISED ones (5), FORGOTTEN ones (6): STAMP, the CLIENT, 0 to 6, the SLOT")
  static void sixtyRows() {
    Gate x = of("client");
    due(x.count(12), 0);
    due(x.log(0, 0), NONE);
    // Each abort is a row: its STAMP tells which.
    for (int i = 1; i <= 62; i++) {
      x.begin(0);
      x.abort(0);
      due(x.count(12), Math.min(60, i));
      due(x.log(0, 0), i);
      if (i >= 59) {
        due(x.log(58, 0), i - 58);
        due(x.log(59, 0), i < 60 ? NONE : i - 59);
        due(x.log(60, 0), NONE);
      }
    }
    logIs(x, row(62, 0, 4, 0), row(61, 0, 4, 0));
    // Round and round: two rows, a commit and a forgotten one, of each second tick.
    for (int i = 1; i <= 5; i++) {
      x.ticks(50);
      due(x.count(12), 60);
      due(x.log(0, 0), 62 + 50 * i);
      due(x.log(0, 2), 6);
      due(x.log(59, 0), i == 1 ? 53 : 4 + 50 * i);
      due(x.log(59, 2), i == 1 ? 4 : 0);
      due(x.log(60, 0), NONE);
    }
  }

  @Says("in the order in which it comes about (commit ahead of what comes of it)")
  static void allKindsInTheirOrder() {
    Gate x = fleet(1);
    x.begin(0);
    x.begin(1);
    x.begin(2);
    x.read(0, 0);
    x.write(1, 0);
    x.read(1, 1);
    x.write(2, 1);
    x.begin(3);
    // Slot 3 ends; then slot 2 does: the pivot, slot 1, falls, and slot 3 is summarised.
    x.commit(3);
    due(x.commit(2), 6);
    logIs(x, row(6, 3, 5, 3), row(6, 1, 3, 1), row(6, 2, 0, 2), row(5, 3, 0, 3));
    x.begin(1);
    x.abort(0);
    logIs(x, row(7, 2, 6, 2), row(7, 0, 4, 0), row(6, 3, 5, 3));
    store(x, "version 2 1");
    x.write(1, 2);
    logIs(x, row(7, 1, 2, 1), row(7, 2, 6, 2));
    due(x.count(12), 7);
  }

  @Says(promise = 42, value = "THE LOG so many ago (0 the latest) what 0 STAMP, 1 the CLIENT, 2 0 to 6, 3 the SLOT; NONE without")
  static void logWithout() {
    Gate x = of("client;client");
    for (int what = 0; what < 4; what++) due(x.log(0, what), NONE);
    x.begin(1);
    x.begin(0);
    x.abort(1);
    logIs(x, row(2, 0, 4, 1));
    for (int ago : new int[] {-1, 1, 59, 60, Integer.MAX_VALUE, Integer.MIN_VALUE}) due(x.log(ago, 0), NONE);
    refused(ELEMENT, () -> x.log(0, 4));
    refused(ELEMENT, () -> x.log(0, -1));
    refused(ELEMENT, () -> x.log(5, 4));
  }

  @Says("LED: how many rows of THE LOG are of a CLIENT (1 to 3); the STAMP of the latest (none)")
  static void ledByThreeKinds() {
    Gate x = fleet(0);
    due(x.led(0, false), 0);
    due(x.led(0, true), NONE);
    // Kinds 4, 0 and 6, then 0 and 5: none of them counts.
    x.begin(1);
    x.abort(0);
    x.commit(x.begin(1));
    x.begin(0);
    x.commit(x.begin(1));
    due(x.log(0, 2), 5);
    due(x.led(1, false), 0);
    due(x.led(1, true), NONE);
    // Kind 2.
    x.begin(1);
    store(x, "version 9 1");
    x.write(1, 9);
    due(x.led(1, false), 1);
    due(x.led(1, true), 7);
    // Kind 3: slot 1 is the pivot between slots 0 and 2.
    x.begin(1);
    x.begin(2);
    x.read(0, 0);
    x.write(1, 0);
    x.read(1, 1);
    x.write(2, 1);
    x.commit(2);
    due(x.led(1, false), 2);
    due(x.led(1, true), 10);
    due(x.led(0, false), 0);
    due(x.led(2, false), 0);
    // Kind 1.
    Gate y = fleet(0);
    y.begin(0);
    y.begin(1);
    y.begin(2);
    y.read(1, 0);
    y.write(2, 0);
    y.commit(2);
    y.write(1, 1);
    y.commit(1);
    due(y.read(0, 1), NONE);
    due(y.led(0, false), 1);
    due(y.led(0, true), 5);
  }

  @Says(promise = 41, value = "LED: how many rows (stamp false), or the STAMP; NONE")
  static void ledOfTheLatestSixty() {
    Gate x = of("client");
    for (int i = 0; i < 2; i++) {
      x.begin(0);
      store(x, "version 0 1");
      x.write(0, 0);
    }
    due(x.led(0, false), 2);
    due(x.led(0, true), 2);
    // 58 rows more: both are rows still; then one, then none.
    x.ticks(57);
    x.ticks(1);
    due(x.count(5), 60);
    due(x.count(12), 60);
    due(x.led(0, false), 2);
    x.abort(x.begin(0));
    due(x.led(0, false), 1);
    due(x.led(0, true), 2);
    x.abort(x.begin(0));
    due(x.led(0, false), 0);
    due(x.led(0, true), NONE);
  }
}
