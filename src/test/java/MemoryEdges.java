/** Promises 1 and 43 to 47: a new object, acts undone, the image, and counts. */
final class MemoryEdges extends Bench {
  @Says(promise = 1, value = "A store without CLIENTS")
  static void aNewObject() {
    Gate x = new Gate();
    int[] counts = {0, 0, 0, 0, NONE, 0, 3, 0, 0, 0, 0, 0, 0, 0};
    for (int what = 0; what < 14; what++) due(x.count(what), counts[what], line() + ", count(" + what + ")");
    due(x.fault(), NONE);
    due(x.seed(1), 1);
    due(x.running() + x.finished() + x.pivots() + x.cut() + x.apart() + x.rounds() + x.cover() + x.hot() + x.twins(), 0);
    for (int slot = 0; slot < 8; slot++) {
      due(x.slot(slot, 0), 0);
      due(x.seen(slot, 9), NONE);
    }
    for (int key = 0; key < 10; key++) keyIs(x, key, 0, 0, 0, 0, NONE);
    for (int what = 0; what < 3; what++) due(x.most(what), NONE);
    due(x.pairs(NONE), 0);
    due(x.serial(0), NONE);
    due(x.log(0, 0), NONE);
    due(x.history(0, 0), NONE);
    due(x.undo(), false);
    due(x.back(), false);
    due(x.end(0), true);
    due(x.end(1), false);
    refused(INDEX, () -> x.client(0, 0));
    refused(INDEX, () -> x.begin(0));
    refused(INDEX, () -> x.led(0, false));
    refused(STATE, () -> x.read(0, 0));
    // Each object is its own.
    Gate y = of("client");
    y.begin(0);
    due(new Gate().count(0), 0);
    due(x.count(1), 0);
  }

  @Says("UNDONE: the latest ACT not undone yet (12 are remembered; TICKS of one call are one)")
  static void twelveActs() {
    for (int acts : new int[] {0, 1, 11, 12, 13, 30}) {
      Gate x = of("client");
      x.begin(0);
      store(x, "");
      for (int i = 1; i <= acts; i++) {
        x.keep(i % 7);
        due(x.count(13), Math.min(12, i));
      }
      int remembered = Math.min(12, acts);
      for (int i = 1; i <= remembered; i++) {
        due(x.undo(), true);
        due(x.count(13), remembered - i);
        due(x.count(6), acts - i == 0 ? 3 : (acts - i) % 7);
      }
      due(x.undo(), false);
      due(x.count(13), 0);
      due(x.undo(), false);
      due(x.running(), 1);
    }
    Gate ticks = of("client");
    ticks.ticks(60);
    ticks.ticks(1);
    due(ticks.count(13), 2);
    due(ticks.undo(), true);
    due(ticks.count(5), 60);
    due(ticks.undo(), true);
    due(ticks.count(5), 0);
    due(ticks.undo(), false);
  }

  @Says("the latest ACT not undone yet")
  static void whatIsUndoneIsGone() {
    // Acts behind an undone one take its place, round and round the twelve.
    Gate x = new Gate();
    for (int i = 0; i < 12; i++) x.keep(1);
    for (int round = 0; round < 5; round++) {
      for (int i = 0; i < 5; i++) due(x.undo(), true);
      due(x.count(13), 7);
      for (int i = 0; i < 5; i++) x.keep(i);
      due(x.count(13), 12);
    }
    int[] keeps = {3, 2, 1, 0, 1};
    for (int keep : keeps) {
      due(x.undo(), true);
      due(x.count(6), keep);
    }
    for (int i = 0; i < 7; i++) due(x.undo(), true);
    due(x.count(6), 3);
    due(x.undo(), false);
  }

  @Says("ACTS: TICKS; a CLIENT begins; a SLOT reads, writes, commits by hand; a SLOT is aborted by hand (ABORTED (4), then TIDY); KEEP is told (then TIDY)")
  static void whatIsAnAct() {
    Gate x = of("client;client only");
    x.ticks(1);
    due(x.count(13), 1);
    if (x.client(0, 5) == NONE) x.begin(0); else x.begin(1);
    due(x.count(13), 2);
    int slot = x.client(0, 5);
    x.read(slot, 1);
    due(x.count(13), 3);
    x.write(slot, 1);
    due(x.count(13), 4);
    x.commit(slot);
    due(x.count(13), 5);
    x.abort(x.client(1, 5));
    due(x.count(13), 6);
    x.keep(3);
    due(x.count(13), 7);
    // Acts of which nothing comes are acts, too: SAFE, told again, no clients, none FREE.
    int safe = x.begin(1);
    x.read(safe, 1);
    x.read(safe, 1);
    due(x.count(13), 10);
    Gate none = new Gate();
    none.ticks(3);
    due(none.count(13), 1);
    due(none.undo(), true);
    // None of these is one, nor what is refused.
    tell(x, 0, 1);
    x.who();
    x.likely();
    x.ask();
    x.seed(5);
    x.image();
    x.trial(20, true);
    x.span(20, true);
    x.dooms(safe, 0, 3);
    x.feed(0, 0, 0, 0, 0);
    x.end(0);
    refused(ARGUMENT, () -> x.ticks(61));
    refused(STATE, () -> x.begin(1));
    refused(INDEX, () -> x.begin(2));
    refused(INDEX, () -> x.read(safe, 10));
    refused(STATE, () -> x.write(safe, 1));
    refused(STATE, () -> x.commit(7));
    refused(STATE, () -> x.abort(7));
    refused(ARGUMENT, () -> x.keep(7));
    wrongStore(x, "foo", 0);
    wrongLaw(x, "foo", 0);
    due(x.count(13), 10);
  }

  /** What undoing brings back, as a row of numbers. */
  private static String sight(Gate x) {
    StringBuilder b = new StringBuilder();
    for (int what = 0; what < 13; what++) b.append(x.count(what)).append(' ');
    for (int slot = 0; slot < 3; slot++) for (int what = 0; what < 16; what++) b.append(x.slot(slot, what)).append(' ');
    for (int key = 0; key < 3; key++) for (int what = 0; what < 5; what++) b.append(x.key(key, what)).append(' ');
    for (int client = 0; client < x.count(0); client++) b.append(x.client(client, 3)).append(' ').append(x.client(client, 4)).append(' ');
    b.append(x.log(0, 2)).append(' ').append(x.history(0, 1)).append(' ').append(x.seen(0, 0));
    return b.toString();
  }

  @Says("all is as ahead of it (but for the TAPE, fault(), THE IMAGE)")
  static void allIsAsAhead() {
    String store = "client reads 0 writes 1;client reads 0 writes 0;client reads 0 1 only;keep 1;purse 4";
    // Each kind of act, with all that comes of it, is undone.
    for (int act = 0; act < 8; act++) {
      Gate x = of(store, "pay 3");
      x.begin(0);
      x.read(0, 0);
      x.begin(1);
      x.write(1, 0);
      if (act != 0) x.commit(1);
      if (act > 1) x.begin(2);
      if (act == 7) x.write(0, 1);
      String ahead = sight(x);
      if (act == 0) x.commit(1);
      if (act == 1) x.begin(2);
      if (act == 2) x.read(2, 1);
      if (act == 3) x.write(0, 1);
      if (act == 4) x.abort(0);
      if (act == 5) x.keep(0);
      if (act == 6) x.ticks(60);
      if (act == 7) x.commit(0);
      due(ahead.equals(sight(x)), false, line() + ", act " + act);
      due(x.undo(), true);
      due(sight(x), ahead, line() + ", act " + act);
      due(x.seed(1), 1);
    }
    // SEED, too, by a draw or told.
    Gate seed = of("client");
    seed.seed(5);
    seed.ticks(1);
    seed.seed(8);
    due(seed.undo(), true);
    due(seed.seed(1), 5);
    // The law stays, as no act told it; the tape, fault() and the image stay, as they are now.
    Gate x = of("client", "pay 3");
    x.begin(0);
    x.image();
    x.commit(0);
    wrongStore(x, "keep 8", 5);
    x.feed(0, 0, 0, 0, 0);
    x.image();
    due(x.undo(), true);
    due(x.fault(), 5);
    due(x.end(21), false);
    due(x.end(20), true);
    due(x.running(), 1);
    due(x.slot(0, 11), 4);
    due(x.back(), true);
    due(x.count(10), 1);
  }

  @Says({"UNDONE: the latest ACT not undone yet", "HISTORY: of the latest 12 commits", "THE LOG: the latest 60 commits"})
  static void whatWasDroppedComesBack() {
    // The oldest row of each is dropped by the next one, and comes back by undoing, or by going back.
    Gate x = of("client reads 0 writes 0");
    x.ticks(60);
    x.ticks(60);
    x.image();
    for (int i = 0; i < 3; i++) {
      due(x.log(59, 0), 2);
      due(x.log(0, 0), 60);
      due(x.history(0, 1), 38);
      due(x.version(0, 0, true), 19);
      due(x.version(0, 0, false), 18);
      due(x.history(11, 1), 60);
      due(x.count(9) + x.count(12), 72);
      if (i == 2) break;
      x.ticks(4);
      due(x.log(59, 0), 4);
      due(x.log(0, 0), 62);
      due(x.history(0, 1), 40);
      due(x.version(0, 0, true), 20);
      due(x.history(11, 1), 62);
      due(i == 0 ? x.undo() : x.back(), true);
    }
    // With its client and its keys, and what it saw and wrote of each.
    Gate y = of("client;client;client;version 0 3;version 2 5");
    int first = y.begin(1);
    y.read(first, 0);
    y.write(first, 2);
    y.commit(first);
    for (int i = 0; i < 11; i++) y.commit(y.begin(0));
    int last = y.begin(2);
    y.read(last, 2);
    y.write(last, 0);
    y.image();
    for (int i = 0; i < 3; i++) {
      int[] row = {1, 2, 1, 4};
      for (int what = 0; what < 4; what++) due(y.history(0, what), row[what]);
      due(y.version(0, 0, false), 3);
      due(y.version(0, 2, true), 6);
      due(y.version(0, 2, false), NONE);
      due(y.log(23, 1), 1);
      if (i == 2) break;
      y.commit(last);
      due(y.history(0, 0), 0);
      due(y.history(11, 0), 2);
      due(y.history(11, 2), 4);
      due(y.history(11, 3), 1);
      due(y.version(11, 2, false), 6);
      due(y.version(11, 0, true), 4);
      due(i == 0 ? y.undo() : y.back(), true);
    }
    y.dooms(last, 2, 0);
    y.trial(60, true);
    due(y.history(0, 0), 1);
    due(y.history(0, 2), 1);
    due(y.history(0, 3), 4);
    due(y.version(0, 2, true), 6);
    // Nor does a trial, a span or what would be doomed drop it.
    int slot = x.begin(0);
    x.trial(60, true);
    x.span(60, true);
    x.dooms(slot, 2, 0);
    due(x.log(59, 0), 2);
    due(x.history(0, 1), 38);
    due(x.version(0, 0, true), 19);
  }

  @Says("A text, going back: none are remembered")
  static void noneAreRemembered() {
    Gate x = of("client");
    x.begin(0);
    x.commit(0);
    due(store(x, ""), 2);
    due(x.count(13), 0);
    due(x.undo(), false);
    due(x.count(10), 1);
    x.begin(0);
    due(law(x, ""), 0);
    due(x.count(13), 0);
    due(x.undo(), false);
    due(x.running(), 1);
    x.abort(0);
    x.image();
    due(x.count(13), 1);
    x.begin(0);
    due(x.count(13), 2);
    due(x.back(), true);
    due(x.count(13), 0);
    due(x.undo(), false);
    due(x.running(), 0);
    // A wrong text, a 13th one, and going back to no image leave them.
    x.begin(0);
    wrongStore(x, "foo", 0);
    wrongLaw(x, "foo", 0);
    due(x.count(13), 1);
    for (int i = 3; i <= 12; i++) due(store(x, ""), i);
    x.commit(0);
    tell(x, "keep 1");
    refused(UNSUPPORTED, x::store);
    due(x.count(13), 1);
    due(x.undo(), true);
    due(x.running(), 1);
    Gate y = of("client");
    y.begin(0);
    due(y.back(), false);
    due(y.count(13), 1);
    due(y.undo(), true);
  }

  @Says("THE IMAGE (one) of all may be kept, and gone back to (but for the TAPE, fault() and THE IMAGE itself)")
  static void theImageOfAll() {
    String store = "client reads 0 writes 1;client reads 0 writes 0;client reads 0 1 only;keep 1;purse 4";
    Gate x = of(store, "pay 3;blame 2");
    x.begin(0);
    x.read(0, 0);
    x.begin(1);
    x.write(1, 0);
    x.seed(7);
    String kept = sight(x);
    x.image();
    x.commit(1);
    x.begin(2);
    x.ticks(30);
    store(x, "client;purse 9;version 7 7;keep 5");
    law(x, "pay 1");
    x.image();
    String later = sight(x);
    due(x.back(), true);
    due(sight(x), later);
    // One: the earlier one is gone.
    due(x.count(3), 2);
    due(x.count(0), 4);
    Gate y = of(store, "pay 3;blame 2");
    y.begin(0);
    y.read(0, 0);
    y.begin(1);
    y.write(1, 0);
    y.seed(7);
    y.image();
    y.ticks(40);
    store(y, "client;purse 9;version 7 7;keep 5");
    law(y, "pay 1");
    due(y.back(), true);
    due(sight(y), kept);
    due(y.count(4), 2);
    due(y.slot(0, 11), 4);
    due(y.slot(0, 10), 12);
    due(y.key(7, 0), 0);
    due(y.seed(7), 7);
  }

  @Says(promise = 45, value = "THE IMAGE is kept")
  static void theImageStays() {
    Gate x = of("client");
    x.begin(0);
    x.image();
    due(x.count(13), 1);
    // Again and again, whatever was done since.
    for (int i = 0; i < 3; i++) {
      x.commit(0);
      x.ticks(5 + i);
      due(x.back(), true);
      due(x.running(), 1);
      due(x.count(5), 1);
      due(x.count(12), 0);
    }
    due(x.back(), true);
    due(x.back(), true);
    // Undoing acts that came ahead of it does not change it.
    x.commit(0);
    x.image();
    due(x.undo(), true);
    due(x.count(10), 0);
    due(x.back(), true);
    due(x.count(10), 1);
    // Of a new object, too: without clients, without a law.
    Gate y = new Gate();
    y.image();
    store(y, "client;keep 0;version 3 3;purse 3");
    law(y, "blame 1");
    y.ticks(9);
    due(y.back(), true);
    int[] counts = {0, 0, 0, 0, NONE, 0, 3, 0, 0, 0, 0, 0, 0, 0};
    for (int what = 0; what < 14; what++) due(y.count(what), counts[what], line() + ", count(" + what + ")");
    due(y.key(3, 0), 0);
    due(y.seed(1), 1);
    refused(INDEX, () -> y.client(0, 0));
    // A law told behind it is gone by going back, and holds again only if it is told again.
    due(store(y, "client"), 1);
    y.begin(0);
    due(y.slot(0, 10), 10);
  }

  @Says(promise = 46, value = "One goes back to THE IMAGE: true; false, and nothing happens, if none was kept")
  static void noImage() {
    Gate x = of("client");
    x.begin(0);
    String was = sight(x);
    due(x.back(), false);
    due(sight(x), was);
    due(x.count(13), 1);
    x.image();
    due(x.back(), true);
    due(sight(x), was);
    due(x.count(13), 0);
    // The tape and fault() stay as they are now.
    wrongLaw(x, "pay 41", 4);
    x.feed(0, 0, 0, 0, 0);
    due(x.back(), true);
    due(x.fault(), 4);
    due(x.end(20), true);
    due(x.end(21), false);
  }

  @Says(promise = 44, value = "UNDONE: whether there was one")
  static void whetherThereWasOne() {
    Gate x = of("client");
    due(x.undo(), false);
    String was = sight(x);
    x.begin(0);
    String begun = sight(x);
    due(x.undo(), true);
    due(sight(x), was);
    due(x.undo(), false);
    due(sight(x), was);
    x.begin(0);
    due(sight(x), begun);
  }

  @Says(promise = 47, value = "0 CLIENTS, 1 RUNNING SLOTS, 2 FINISHED ones, 3 texts of THE STORE, 4 LINES of THE LAW (NONE without one), 5 STAMP, 6 KEEP, 7 PURSE, 8 EDGES, 9 rows of HISTORY, 10 DONE of all, 11 RETRIES of all, 12 rows of THE LOG, 13 acts that can be UNDONE. NONE for another what")
  static void counts() {
    Gate x = new Gate();
    for (int what : new int[] {-1, 14, 15, 100, Integer.MAX_VALUE, Integer.MIN_VALUE}) due(x.count(what), NONE);
    due(x.count(4), NONE);
    law(x, "");
    due(x.count(4), 0);
    store(x, "client reads 0 writes 1;client reads 0 writes 0;client reads 0 1 only;purse 40;keep 5");
    store(x, "client");
    law(x, "pay 7;pay 0 if only");
    x.begin(0);
    x.read(0, 0);
    x.begin(1);
    x.write(1, 0);
    x.read(1, 3);
    x.begin(2);
    x.read(2, 0);
    x.begin(3);
    x.abort(3);
    x.begin(3);
    x.abort(3);
    x.commit(1);
    // Slots 0 and 2 have edges to slot 1; client 3 has two retries; the purse has 8 more.
    due(x.client(3, 3), 2);
    int[] counts = {4, 2, 1, 2, 2, 6, 5, 48, 2, 1, 1, 2, 3, 12};
    for (int what = 0; what < 14; what++) due(x.count(what), counts[what], line() + ", count(" + what + ")");
    x.undo();
    int[] undone = {4, 3, 0, 2, 2, 5, 5, 40, 2, 0, 0, 2, 2, 11};
    for (int what = 0; what < 14; what++) due(x.count(what), undone[what], line() + ", count(" + what + ") undone");
    // DONE and RETRIES of all are of each client, the first and the last one too.
    Gate all = of(lines("client", 5));
    for (int i = 0; i < 5; i++) {
      for (int j = 0; j <= i; j++) all.commit(all.begin(i));
      due(all.count(10), (i + 1) * (i + 2) / 2);
    }
    int retries = 0;
    for (int i = 0; i < 5; i++) {
      for (int j = i; j < 5; j++) {
        all.abort(all.begin(i));
        retries++;
      }
      due(all.count(11), retries);
    }
  }
}
