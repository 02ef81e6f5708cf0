/** Promises 4 and 6, and the terms of THE STORE: how long, how many, how much, and where a text is wrong. */
final class StoreEdges extends Bench {
  @Says("A text that is empty, or blanks alone, has no LINE")
  static void noLine() {
    Gate x = new Gate();
    for (String text : new String[] {"", " ", " ".repeat(399), " ".repeat(400)}) {
      tell(x, text);
      int texts = x.count(3) + 1;
      due(outcome(x::store), texts);
      due(x.fault(), NONE);
    }
    due(x.count(0), 0);
    due(x.count(6), 3);
    wrongStore(x, ";", 0);
    wrongStore(x, " ; ", 1);
    wrongStore(x, ";keep 1", 0);
  }

  @Says("THE STORE is told in texts (at most 12, one behind another)")
  static void twelveTexts() {
    Gate x = new Gate();
    for (int i = 1; i <= 12; i++) {
      // Wrong texts are no texts.
      wrongStore(x, "keep", 4);
      due(x.count(3), i - 1);
      due(store(x, "version 1 1"), i);
      due(x.count(3), i);
    }
    tell(x, "version 1 1");
    refused(UNSUPPORTED, x::store);
    due(x.count(3), 12);
    due(x.key(1, 0), 12);
    due(x.end(1), false);
    refused(UNSUPPORTED, x::store);
    due(law(x, "pay 1"), 1);
  }

  @Says(promise = 4, value = "IllegalArgumentException: it is wrong; UnsupportedOperationException: there are 12")
  static void wrongAheadOfTooMany() {
    Gate x = new Gate();
    for (int i = 1; i <= 12; i++) due(x.store(), i);
    wrongStore(x, "keep 7", 5);
    due(x.end(1), false);
    due(x.count(3), 12);
    due(x.count(6), 3);
    // Going back ahead of the twelfth one there is room for one more.
    Gate y = new Gate();
    for (int i = 1; i <= 11; i++) y.store();
    y.image();
    due(y.store(), 12);
    refused(UNSUPPORTED, y::store);
    y.back();
    due(y.count(3), 11);
    due(y.store(), 12);
    refused(UNSUPPORTED, y::store);
  }

  @Says(promise = 6, value = "The first wrong byte of the latest text that was read; NONE without one")
  static void faultOfAThirteenthText() {
    Gate x = new Gate();
    for (int i = 1; i <= 12; i++) x.store();
    for (String right : new String[] {"keep 6", "", "  ", "client only;version 1 1;purse 9"}) {
      wrongLaw(x, "pay 1;  pay 41", 12);
      tell(x, right);
      refused(UNSUPPORTED, x::store);
      due(x.fault(), NONE);
      refused(UNSUPPORTED, x::store);
      due(x.fault(), NONE);
      wrongStore(x, "keep 6;keep 7", 12);
    }
    due(x.count(0), 0);
    due(x.count(3), 12);
    due(x.count(4), NONE);
    due(x.count(6), 3);
    due(x.count(7), 0);
    due(x.key(1, 0), 0);
  }

  @Says("LINE { ; LINE }, at most 14")
  static void fourteenLines() {
    rightStore(lines("keep 1", 13));
    rightStore(lines("keep 1", 14));
    wrongStore(lines("keep 1", 15), 98);
    wrongStore(lines("keep 1", 14) + "; ", 99);
    wrongStore(lines("keep 1", 14) + ";", 98);
    wrongStore(lines("keep 1", 14) + ";  version 1 1", 100);
    wrongStore(lines("keep 1", 14) + ";9", 98);
    Gate x = new Gate();
    store(x, lines("version 4 1", 14));
    due(x.key(4, 0), 14);
  }

  @Says("CLIENTS (at most 5, numbered from 0 on)")
  static void fiveClients() {
    Gate x = new Gate();
    store(x, "client reads 0;client reads 1;client reads 2;client reads 3");
    due(x.count(0), 4);
    store(x, "client reads 4");
    due(x.count(0), 5);
    for (int i = 0; i < 5; i++) due(x.client(i, 0), 1 << i);
    refused(INDEX, () -> x.client(5, 0));
    wrongStore(x, "client reads 5", 0);
    wrongStore(x, "keep 1;  client reads 5", 9);
    due(x.count(0), 5);
    due(x.count(6), 3);
    rightStore(lines("client", 5));
    wrongStore(lines("client", 6), 35);
    Gate three = of(lines("client", 3));
    wrongStore(three, lines("client", 3), 14);
    due(three.count(0), 3);
    due(store(three, lines("client", 2)), 2);
    due(three.count(0), 5);
    Gate full = of(lines("client", 5));
    wrongStore(full, "clien", 0);
    due(store(full, "keep 1"), 2);
  }

  @Says("(reads, writes: KEYS, at most 10 each, else it is wrong at the 11th one; one told twice counts once; numbers end where none stands next")
  static void tenNumbers() {
    Gate x = new Gate();
    store(x, "client reads 0 1 2 3 4 5 6 7 8;client reads 0 1 2 3 4 5 6 7 8 9 writes 9 8 7 6 5 4 3 2 1 0");
    due(x.client(0, 0), 511);
    due(x.client(1, 0), 1023);
    due(x.client(1, 1), 1023);
    wrongStore(x, "client reads 0 1 2 3 4 5 6 7 8 9 0", 33);
    wrongStore(x, "client reads 0 1 2 3 4 5 6 7 8 9 9 writes 1", 33);
    wrongStore(x, "client writes 0 1 2 3 4 5 6 7 8 9 0", 34);
    wrongStore(x, "client reads 1 writes 5 5 5 5 5 5 5 5 5 5   5", 44);
    wrongStore(x, "client reads 5 5 5 5 5 5 5 5 5 5 777", 33);
    wrongStore(x, "client reads 5 5 5 5 5 5 5 5 5 5 5555", 33);
    due(x.count(0), 2);
    Gate twice = of("client reads 5 5 5 5 5 5 5 5 5 5 writes 3 3;client reads 4 004 04 6 4");
    due(twice.client(0, 0), 32);
    due(twice.client(0, 1), 8);
    due(twice.client(1, 0), 80);
    Gate ends = of("client reads 1 2writes 3;client reads 1;client writes 2   ;client");
    due(ends.client(0, 0), 6);
    due(ends.client(0, 1), 8);
    due(ends.client(2, 1), 4);
    due(ends.client(3, 0) + ends.client(3, 1), 0);
  }

  @Says("KEYS 0 to 9")
  static void keysInTexts() {
    Gate x = of("client reads 0 9 writes 9 0;version 0 3;version 9 4");
    due(x.client(0, 0), 513);
    due(x.client(0, 1), 513);
    due(x.key(0, 0), 3);
    due(x.key(9, 0), 4);
    wrongStore("client reads 10", 13);
    wrongStore("client reads 9 10", 15);
    wrongStore("client writes 10", 14);
    wrongStore("client writes 0 999", 16);
    wrongStore("version 10 1", 8);
    wrongStore("version 999 1", 8);
  }

  @Says("Numbers are of 1 to 3 digits")
  static void digits() {
    Gate x = of("client reads 009 09 9;version 007 010;keep 005;purse 012");
    due(x.client(0, 0), 512);
    due(x.key(7, 0), 10);
    due(x.count(6), 5);
    due(x.count(7), 12);
    wrongStore("client reads 0009", 13);
    wrongStore("client reads 1 writes 0000", 22);
    wrongStore("version 0003 1", 8);
    wrongStore("version 3 0001", 10);
    wrongStore("keep 0001", 5);
    wrongStore("purse 0001", 6);
    wrongStore("purse 99999999999999999999", 6);
    wrongStore("version 1 4294967296", 10);
    // Digits are 0 to 9: the signs beside these, / and :, tell no number.
    wrongStore("keep /", 5);
    wrongStore("keep :", 5);
    wrongStore("keep 1/", 6);
    wrongStore("keep 1:", 6);
    wrongStore("purse -1", 6);
    wrongStore("purse +1", 6);
  }

  @Says("only: it must have no WRITES, else it is wrong at only")
  static void onlyWithoutWrites() {
    Gate x = of("client only;client reads 1 2 only;client reads 1 writes 2;client writes 1");
    int[] only = {1, 1, 0, 0};
    for (int i = 0; i < 4; i++) due(x.client(i, 2), only[i]);
    wrongStore("client writes 0 only", 16);
    wrongStore("client reads 3 writes 1 2   only", 28);
    wrongStore("client reads 3 writes 1 2only", 25);
    wrongStore("client writes 1 only;client", 16);
    wrongStore("client only only", 12);
    wrongStore("client only writes 1", 12);
    wrongStore("client only reads 1", 12);
    wrongStore("client writes 1 reads 1", 16);
    wrongStore("client reads 1 reads 2", 15);
    wrongStore("client writes 1 writes 2", 16);
  }

  @Says("version: a KEY that no RUNNING SLOT HAS WRITTEN, else it is wrong at it")
  static void versionOfAWrittenKey() {
    Gate x = of("client reads 1 writes 0;client");
    x.begin(0);
    x.begin(1);
    x.read(0, 1);
    due(store(x, "version 0 1"), 2);
    x.abort(0);
    x.begin(0);
    x.read(0, 1);
    x.write(0, 0);
    wrongStore(x, "version 0 1", 8);
    wrongStore(x, "version  0 0", 9);
    wrongStore(x, "keep 1;version 1 5;version 000 5", 27);
    wrongStore(x, "version 0 9999", 8);
    wrongStore(x, "version 0", 8);
    due(x.key(0, 0), 1);
    due(x.key(1, 0), 0);
    // What it HAS READ, and each other key, can be told.
    due(store(x, "version 1 5;version 9 7"), 3);
    due(x.key(1, 0), 5);
    // A FINISHED one, still kept, that HAS WRITTEN it is no RUNNING one.
    x.commit(0);
    due(x.slot(0, 0), 2);
    due(store(x, "version 0 1"), 4);
    due(x.key(0, 0), 3);
    // Nor is one that was aborted.
    x.begin(0);
    x.write(2, 0);
    wrongStore(x, "version 0 1", 8);
    x.abort(2);
    due(store(x, "version 0 1"), 5);
    due(x.key(0, 0), 4);
  }

  @Says("by how much its VERSION is more from then on, 0 to 999, 9999 at most")
  static void howMuchMore() {
    Gate x = of("version 1 0;version 2 1;version 3 998;version 4 999");
    due(x.key(1, 0), 0);
    due(x.key(2, 0), 1);
    due(x.key(3, 0), 998);
    due(x.key(4, 0), 999);
    wrongStore(x, "version 5 1000", 10);
    store(x, "version 4 999;version 4 2");
    due(x.key(4, 0), 2000);
    store(x, lines("version 6 999", 10));
    due(x.key(6, 0), 9990);
    store(x, "version 6 8");
    due(x.key(6, 0), 9998);
    store(x, "version 6 1");
    due(x.key(6, 0), 9999);
    store(x, "version 6 0");
    due(x.key(6, 0), 9999);
    store(x, "version 6 1");
    due(x.key(6, 0), 9999);
    store(x, lines("version 7 999", 11));
    due(x.key(7, 0), 9999);
    // From then on: who began ahead of the text has SEEN what was.
    Gate y = of("client;client");
    y.begin(0);
    store(y, "version 1 4");
    y.begin(1);
    due(y.seen(0, 1), 0);
    due(y.seen(1, 1), 4);
  }

  @Says("KEEP 0 to 6 (3 at first)")
  static void keepInTexts() {
    Gate x = new Gate();
    due(x.count(6), 3);
    for (int keep : new int[] {0, 1, 5, 6}) {
      store(x, "keep " + keep);
      due(x.count(6), keep);
    }
    wrongStore(x, "keep 7", 5);
    wrongStore(x, "keep 10", 5);
    wrongStore(x, "keep", 4);
    due(x.count(6), 6);
  }

  @Says({"PURSE 0 to 9999 (0 at first)", "purse 0 to 999; behind a text TIDY"})
  static void purseInTexts() {
    Gate x = new Gate();
    due(x.count(7), 0);
    for (int purse : new int[] {1, 998, 999, 0, 999}) {
      store(x, "purse " + purse);
      due(x.count(7), purse);
    }
    wrongStore(x, "purse 1000", 6);
    wrongStore(x, "purse", 5);
    due(x.count(7), 999);
  }

  private static Gate threeFinished() {
    Gate x = of("client;client reads 1 writes 2");
    x.begin(0);
    for (int i = 1; i <= 3; i++) {
      x.begin(1);
      x.write(i, 2);
      x.commit(i);
    }
    return x;
  }

  @Says("behind a text TIDY")
  static void tidyBehindAText() {
    Gate x = threeFinished();
    due(x.finished(), 14);
    store(x, "keep 2");
    due(x.finished(), 12);
    keyIs(x, 2, 3, 0, 3, 0);
    store(x, "keep 0");
    due(x.finished(), 0);
    keyIs(x, 2, 3, 0, 7, 0);
    logIs(x, row(7, 1, 5, 3), row(7, 1, 5, 2), row(7, 1, 5, 1), row(7, 1, 0, 3));
    // Behind the text, not behind each line, and not behind a wrong one.
    Gate y = threeFinished();
    store(y, "keep 0;keep 3");
    due(y.finished(), 14);
    wrongStore(y, "keep 0;keep 7", 12);
    due(y.finished(), 14);
    store(y, "keep 3;keep 1");
    due(y.finished(), 8);
  }

  @Says("Of a wrong text nothing stays")
  static void nothingStays() {
    Gate x = of("client reads 1;version 2 3;keep 2;purse 8");
    x.begin(0);
    wrongStore(x, "client;version 2 5;keep 5;purse 9;client writes 3;version 9 9;foo", 62);
    due(x.count(0), 1);
    due(x.key(2, 0), 3);
    due(x.key(9, 0), 0);
    due(x.count(6), 2);
    due(x.count(7), 8);
    due(x.count(3), 1);
    due(x.count(13), 1);
    due(store(x, "client writes 4"), 2);
    due(x.client(1, 0), 0);
    due(x.client(1, 1), 16);
    due(x.client(1, 2), 0);
  }

  @Says("Words are as long as a to z go on; between all there may be blanks (32), also ahead and behind")
  static void wordsAndBlanks() {
    Gate x = new Gate();
    due(store(x, "   client   reads  1   2  writes   3  ;  client only  ;keep 2;version4 7;purse5   "), 1);
    due(x.client(0, 0), 6);
    due(x.client(0, 1), 8);
    due(x.client(1, 2), 1);
    due(x.key(4, 0), 7);
    due(x.count(7), 5);
    due(store(x, "client reads1 2writes3;keep6"), 2);
    due(x.client(2, 0), 6);
    due(x.client(2, 1), 8);
    due(x.count(6), 6);
    // What comes right ahead of a and right behind z ends a word; a and z themselves go on.
    wrongStore("client`", 6);
    wrongStore("client{", 6);
    wrongStore("clienta", 0);
    wrongStore("clientz", 0);
    wrongStore("clientreads 1", 0);
    wrongStore("client readswrites 1", 7);
    wrongStore("clien", 0);
    wrongStore("clien t", 0);
    wrongStore("Client", 0);
    wrongStore("client reads 1 onlywrites", 15);
    wrongStore("keepa 1", 0);
    wrongStore("client @", 7);
    wrongStore("client [", 7);
    // No other sign is a blank.
    for (int sign : new int[] {0, 9, 10, 13, 31, 33, 95, 127, 128, 160, 255}) {
      Gate y = new Gate();
      tell(y, sign, 'k', 'e', 'e', 'p', ' ', '1');
      refused(ARGUMENT, y::store);
      due(y.fault(), 0);
      tell(y, 'k', 'e', 'e', 'p', sign, '1');
      refused(ARGUMENT, y::store);
      due(y.fault(), 4);
      tell(y, 'k', 'e', 'e', 'p', ' ', '1', sign);
      refused(ARGUMENT, y::store);
      due(y.fault(), 6);
    }
  }

  @Says("the begin of the first thing that cannot stand there")
  static void theFirstWrongThing() {
    wrongStore("foo", 0);
    wrongStore("  foo;keep 9", 2);
    wrongStore("reads 1", 0);
    wrongStore("1", 0);
    wrongStore("keep keep", 5);
    wrongStore("keep ;", 5);
    wrongStore("keep 3 4", 7);
    wrongStore("keep 3 keep 4", 7);
    wrongStore("keep 3 client", 7);
    wrongStore("purse 3 4", 8);
    wrongStore("version only 1", 8);
    wrongStore("version 1 only", 10);
    wrongStore("version 1 1 1", 12);
    wrongStore("version 1 ;", 10);
    wrongStore("version;", 7);
    wrongStore("client reads writes 1", 13);
    wrongStore("client reads only", 13);
    wrongStore("client reads;", 12);
    wrongStore("client reads 1 writes;", 21);
    wrongStore("client writes only", 14);
    wrongStore("client 1", 7);
    wrongStore("client client", 7);
    wrongStore("client reads 1,2", 14);
    wrongStore("client reads 1 foo", 15);
    wrongStore("keep 3;;keep 3", 7);
    wrongStore("keep 3 ; ; keep 3", 9);
    wrongStore("blame 1", 0);
    wrongStore("keep 3 < 4", 7);
    wrongStore("(keep 3)", 0);
  }

  @Says("or the text's length, if more must come")
  static void moreMustCome() {
    wrongStore("client reads", 12);
    wrongStore("client reads   ", 15);
    wrongStore("client reads 1 writes", 21);
    wrongStore("version", 7);
    wrongStore("version 3", 9);
    wrongStore("version 3  ", 11);
    wrongStore("keep  ", 6);
    wrongStore("purse", 5);
    wrongStore("keep 3;", 7);
    wrongStore("keep 3;  ", 9);
    // A tape that is full, to its last byte.
    rightStore(" ".repeat(394) + "keep 3");
    wrongStore(" ".repeat(396) + "keep", 400);
    wrongStore(" ".repeat(393) + "keep 3;", 400);
    wrongStore(" ".repeat(394) + "keep 7", 399);
    wrongStore(" ".repeat(399) + ";", 399);
    String long5 = lines("client reads 0 1 2 3 4 5 6 7 8 9 writes 0 1 2 3 4 5 6 7 8 9", 5) + ";" + lines("version 9 99", 7);
    rightStore(long5 + " ".repeat(400 - long5.length()));
    wrongStore(long5 + " ".repeat(399 - long5.length()) + ";", 400);
  }

  @Says(promise = 6, value = "The first wrong byte of the latest text that was read; NONE without one, and ahead of any")
  static void theLatestFault() {
    Gate x = new Gate();
    due(x.fault(), NONE);
    wrongStore(x, "keep 7", 5);
    due(x.fault(), 5);
    due(store(x, "keep 6"), 1);
    due(x.fault(), NONE);
    wrongLaw(x, "pay", 3);
    wrongStore(x, "  keep", 6);
    due(law(x, ""), 0);
    due(x.fault(), NONE);
  }

  @Says("(but for the TAPE, fault(), THE IMAGE)")
  static void faultStays() {
    Gate x = of("client");
    wrongStore(x, "foo foo", 0);
    x.image();
    due(law(x, ""), 0);
    due(x.fault(), NONE);
    x.begin(0);
    wrongStore(x, "keep 8", 5);
    due(x.undo(), true);
    due(x.fault(), 5);
    due(x.back(), true);
    due(x.fault(), 5);
    refused(ARGUMENT, () -> x.ticks(0));
    tell(x, 20, 20);
    refused(ARGUMENT, x::who);
    due(x.who(), 1);
    due(x.fault(), 5);
  }

  @Says("client [ reads N { N } ] [ writes N { N } ] [ only ] | version N N | keep N | purse N")
  static void eachLine() {
    Gate x = of("client;client reads 1;client writes 2;client reads 3 writes 4;client reads 5 only");
    int[] reads = {0, 2, 0, 8, 32};
    int[] writes = {0, 0, 4, 16, 0};
    for (int i = 0; i < 5; i++) {
      due(x.client(i, 0), reads[i]);
      due(x.client(i, 1), writes[i]);
      due(x.client(i, 2), i == 4 ? 1 : 0);
    }
    Gate y = of("purse 30;keep 5;version 2 6;client only;version 2 1;keep 4;purse 20");
    due(y.client(0, 2), 1);
    due(y.key(2, 0), 7);
    due(y.count(6), 4);
    due(y.count(7), 20);
  }
}
