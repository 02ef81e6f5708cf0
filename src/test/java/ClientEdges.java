/** Promises 10 and 24 to 38: clients beside one another, alike ones, none, and numbers that are rounded. */
final class ClientEdges extends Bench {
  private static final String SAME5 = lines("client writes 1", 5);
  private static final String FREE5 = lines("client reads 1", 5);

  @Says("CLASH of two CLIENTS: one WRITES a KEY that the other one READS or WRITES")
  static void clashes() {
    Gate x = of("client reads 0;client reads 0 only;client writes 0;client reads 9 writes 0;client reads 0 writes 9");
    boolean[][] due = {{false, false, true, true, false}, {false, false, true, true, false}, {true, true, false, true, true},
        {true, true, true, false, true}, {false, false, true, true, false}};
    for (int i = 0; i < 5; i++) {
      for (int j = 0; j < 5; j++) if (i != j) due(x.clash(i, j), due[i][j], line() + ", clash(" + i + ", " + j + ")");
    }
    // Both reading 9 and writing nothing of it do not clash; nor do those without keys.
    Gate y = of("client reads 9 writes 1;client reads 9 writes 2;client;client");
    due(y.clash(0, 1), false);
    due(y.clash(2, 3), false);
    due(y.clash(0, 3), false);
    // By the other one's writes alone, either way round.
    Gate z = of("client reads 5;client writes 5");
    due(z.clash(0, 1), true);
    due(z.clash(1, 0), true);
  }

  @Says(promise = 24, value = "CLASH. IllegalArgumentException: both are one")
  static void bothAreOne() {
    Gate x = of("client writes 1;client writes 1");
    refused(ARGUMENT, () -> x.clash(0, 0));
    refused(ARGUMENT, () -> x.clash(1, 1));
    refused(INDEX, () -> x.clash(2, 2));
    refused(INDEX, () -> x.clash(-1, -1));
    refused(INDEX, () -> x.clash(2, 0));
    refused(INDEX, () -> x.clash(0, 2));
    refused(INDEX, () -> x.clash(-1, 0));
    refused(INDEX, () -> x.clash(1, -1));
    due(x.clash(1, 0), true);
    Gate none = new Gate();
    refused(INDEX, () -> none.clash(0, 0));
  }

  @Says("APART: the most CLIENTS no two of which CLASH: of several the least as bits")
  static void mostApart() {
    due(new Gate().apart(), 0);
    due(of("client").apart(), 1);
    due(of(FREE5).apart(), 31);
    due(of(SAME5).apart(), 1);
    // 0 clashes with 1; either of them goes with 2: the least bits.
    due(of("client writes 1;client writes 1;client").apart(), 5);
    // 1 and 2 each clash with 0 alone: both, rather than 0.
    due(of("client writes 1 2;client writes 1;client writes 2").apart(), 6);
    // 0 1, 1 2, 2 3, 3 0 clash: 0 and 2 (5), or 1 and 3 (10).
    due(of("client writes 0 3;client writes 0 1;client writes 1 2;client writes 2 3").apart(), 5);
  }

  @Says(promise = 25, value = "APART, as bits")
  static void apartOfTheLast() {
    due(of("client writes 1;client writes 1;client writes 1;client writes 1;client writes 2").apart(), 17);
    due(of("client writes 0 1 2 3;client writes 0;client writes 1;client writes 2;client writes 3").apart(), 30);
  }

  @Says("ROUNDS: the fewest rounds into which all CLIENTS can be put so that no two of a round CLASH")
  static void fewestRounds() {
    due(new Gate().rounds(), 0);
    due(of("client writes 1").rounds(), 1);
    due(of(FREE5).rounds(), 1);
    due(of("client writes 1;client reads 1").rounds(), 2);
    due(of(lines("client writes 1", 4)).rounds(), 4);
    due(of(SAME5).rounds(), 5);
  }

  @Says("ROUND of a CLIENT: its round (from 0 on) in the first such way (CLIENT by CLIENT, rounds by numbers, a new one only as the next number)")
  static void roundOfAClient() {
    roundsAre(of("client"), 0);
    roundsAre(of(FREE5), 0, 0, 0, 0, 0);
    roundsAre(of(SAME5), 0, 1, 2, 3, 4);
    // 0 clashes with 1 alone, 2 with none: it goes into the least round.
    roundsAre(of("client writes 1;client writes 1;client"), 0, 1, 0);
    // 0 - 3 - 2 - 1: with 0 and 1 in one round three would be needed.
    roundsAre(of("client writes 0;client writes 1;client reads 1 writes 2;client reads 0 2"), 0, 1, 0, 1);
    // 0 - 2 - 1 - 3: with 0 and 1 in one round two are enough.
    roundsAre(of("client writes 0;client writes 1 2;client reads 0 1;client reads 2"), 0, 0, 1, 1);
    // Five in a ring need three; the last one takes the third.
    roundsAre(of("client writes 0 4;client writes 0 1;client writes 1 2;client writes 2 3;client writes 3 4"), 0, 1, 0, 1, 2);
  }

  private static void roundsAre(Gate x, int... rounds) {
    int most = 0;
    for (int i = 0; i < rounds.length; i++) {
      due(x.client(i, 7), rounds[i], line() + ", client(" + i + ", 7)");
      most = Math.max(most, rounds[i] + 1);
    }
    due(x.rounds(), most, line() + ", rounds()");
  }

  @Says("COVER: the fewest KEYS so that each CLIENT that uses any (READS or WRITES) uses one of these: of several the least as bits")
  static void leastCover() {
    due(new Gate().cover(), 0);
    due(of("client;client only").cover(), 0);
    due(of("client;client reads 9").cover(), 512);
    due(of("client reads 0 9").cover(), 1);
    due(of("client writes 9 3").cover(), 8);
    due(of("client reads 5;client writes 5").cover(), 32);
    due(of("client reads 1 2;client writes 2 3;client").cover(), 4);
    // All five apart need five; of four keys that all use the least goes.
    due(of("client reads 0;client writes 2;client reads 4;client writes 6;client reads 8").cover(), 341);
    due(of(lines("client reads 6 7 writes 8 9", 5)).cover(), 64);
    // 0 and 4 (17), or 1 and 3 (10).
    due(of("client reads 0 1;client reads 0 3;client reads 1 4;client reads 3 4").cover(), 10);
  }

  @Says("PAIRS: CLIENTS put two by two, each in one such pair at most, none that CLASH, so that how many KEYS the one uses and how many the other one uses, of all so put, are together the most: how many")
  static void mostInPairs() {
    due(new Gate().pairs(NONE), 0);
    due(of("client reads 1 2 3").pairs(NONE), 0);
    due(of(SAME5).pairs(NONE), 0);
    due(of(FREE5).pairs(NONE), 4);
    // A KEY that it both READS and WRITES is one; one that both use counts for each.
    due(of("client reads 1 2 writes 2 3;client reads 1").pairs(NONE), 4);
    // Of three the two that use the most; of five the one of the fewest is left.
    due(of("client reads 1;client reads 1 2;client reads 1 2 3").pairs(NONE), 5);
    due(of("client reads 0 1 2 3 4 5 6 7 8 9;" + lines("client reads 1 2", 3) + ";client reads 9").pairs(NONE), 16);
    // Who clashes with all others is left, and of three the one of the fewest keys.
    due(of("client writes 0;client reads 0 1 2 3 4;client reads 0 1 2 3 4;client reads 0").pairs(NONE), 10);
  }

  @Says("with whom one is in the first such way (CLIENT by CLIENT, none being the least, then the others); none")
  static void firstPairs() {
    pairsAre(of(SAME5), NONE, NONE, NONE, NONE, NONE);
    pairsAre(of(FREE5), NONE, 2, 1, 4, 3);
    pairsAre(of("client"), NONE);
    // Without keys none being paired is as good, and first.
    pairsAre(of("client;client;client"), NONE, NONE, NONE);
    pairsAre(of("client reads 1;client;client"), 1, 0, NONE);
    pairsAre(of("client;client reads 1;client"), NONE, 2, 1);
    pairsAre(of("client reads 1;client reads 1;client reads 1;client reads 1"), 1, 0, 3, 2);
    pairsAre(of("client reads 1;client reads 1;client reads 1"), NONE, 2, 1);
    pairsAre(of("client reads 1 2;client reads 1;client reads 1;client reads 1 writes 9"), 1, 0, 3, 2);
    pairsAre(of("client reads 1 2;client writes 1;client writes 2;client reads 5"), 3, 2, 1, 0);
  }

  private static void pairsAre(Gate x, int... with) {
    for (int i = 0; i < with.length; i++) due(x.pairs(i), with[i], line() + ", pairs(" + i + ")");
  }

  @Says(promise = 31, value = "PAIRS: how many (client NONE), or with whom one is; NONE")
  static void pairsOfNoClient() {
    Gate x = of("client reads 1;client reads 1");
    due(x.pairs(-1), 2);
    due(x.pairs(0), 1);
    due(x.pairs(1), 0);
    for (int client : new int[] {2, -2, 5, Integer.MAX_VALUE, Integer.MIN_VALUE}) refused(INDEX, () -> x.pairs(client));
    Gate none = new Gate();
    due(none.pairs(-1), 0);
    refused(INDEX, () -> none.pairs(0));
  }

  @Says("RESTS of two CLIENTS: each goes on (0) or waits (1), unseen: both going on each has 0 less 2, if they CLASH, else 2; who goes on alone has 3, the other one 0 less its RETRIES; both waiting each has 0: choices (2 times the first one's and the other one's) from which neither would have more by its other one: as bits")
  static void restsByRetries() {
    // Going on against one who goes on is worth -2, waiting minus its RETRIES: 1 less, 2 alike, 3 more.
    int[][] clash = {{6, 6, 6, 4}, {6, 6, 6, 4}, {6, 6, 7, 5}, {2, 2, 3, 1}};
    int[][] free = {{1, 1, 1, 1}, {1, 1, 1, 1}, {1, 1, 1, 1}, {1, 1, 1, 1}};
    for (int first = 0; first < 4; first++) {
      for (int other = 0; other < 4; other++) {
        due(retried("client writes 1;client writes 1", first, other).rests(0, 1), clash[first][other], line() + ", " + first + " and " + other);
        due(retried("client writes 1;client writes 2", first, other).rests(0, 1), free[first][other], line() + ", " + first + " and " + other);
      }
    }
    // Two times the first one's choice and the other one's: the other way round the bits change their places.
    Gate x = retried("client writes 1;client writes 1", 3, 0);
    due(x.rests(0, 1), 2);
    due(x.rests(1, 0), 4);
  }

  private static Gate retried(String store, int first, int other) {
    Gate x = of(store);
    for (int i = 0; i < first; i++) x.abort(x.begin(0));
    for (int i = 0; i < other; i++) x.abort(x.begin(1));
    return x;
  }

  @Says(promise = 32, value = "RESTS, as bits. IllegalArgumentException: both are one")
  static void restsOfOne() {
    Gate x = of("client;client;client");
    refused(ARGUMENT, () -> x.rests(0, 0));
    refused(ARGUMENT, () -> x.rests(2, 2));
    refused(INDEX, () -> x.rests(3, 3));
    refused(INDEX, () -> x.rests(-1, -1));
    refused(INDEX, () -> x.rests(0, 3));
    refused(INDEX, () -> x.rests(-1, 0));
    due(x.rests(0, 2), 1);
  }

  @Says("ODDS of N TICKS (0 to 5) and K (0 to 5): that CLIENT 0 has K STEPS at least of these, each CLIENT as likely as each other one, in ten thousandths, rounded down (0 without CLIENTS, but for K 0)")
  static void oddsRoundedDown() {
    for (int clients = 0; clients <= 5; clients++) {
      Gate x = clients == 0 ? new Gate() : of(lines("client", clients));
      for (int n = 0; n <= 5; n++) {
        for (int k = 0; k <= 5; k++) due(x.odds(n, k), oddsBySteps(clients, n, k), line() + ", odds(" + n + ", " + k + ") of " + clients);
      }
    }
    Gate three = of(lines("client", 3));
    due(three.odds(1, 1), 3333);
    due(three.odds(2, 1), 5555);
    due(three.odds(0, 0), 10000);
    due(three.odds(5, 0), 10000);
    due(three.odds(4, 5), 0);
    due(three.odds(5, 5), 41);
  }

  /** Each way of n steps is told by its clients. */
  private static int oddsBySteps(int clients, int n, int k) {
    if (clients == 0) return k == 0 ? 10000 : 0;
    int all = 1;
    for (int i = 0; i < n; i++) all *= clients;
    int good = 0;
    for (int way = 0; way < all; way++) {
      int steps = 0;
      for (int rest = way, i = 0; i < n; i++, rest /= clients) if (rest % clients == 0) steps++;
      if (steps >= k) good++;
    }
    return good * 10000 / all;
  }

  @Says(promise = 33, value = "ODDS. IllegalArgumentException: N or K are none")
  static void oddsOfNone() {
    Gate x = of("client;client");
    int[][] none = {{-1, 0}, {6, 0}, {0, -1}, {0, 6}, {6, 6}, {-1, -1}, {5, 6}, {6, 5}, {Integer.MAX_VALUE, 0}, {0, Integer.MIN_VALUE}};
    for (int[] nk : none) {
      refused(ARGUMENT, () -> x.odds(nk[0], nk[1]));
      Gate empty = new Gate();
      refused(ARGUMENT, () -> empty.odds(nk[0], nk[1]));
    }
    due(x.odds(5, 5), 312);
    due(x.odds(0, 0), 10000);
  }

  @Says("BUSIEST: the CLIENT of the most DONE; UNLUCKIEST: of the most RETRIES; GREEDIEST: of the most KEYS used (of several the least; none, each)")
  static void mostOfSeveral() {
    Gate none = new Gate();
    for (int what = 0; what < 3; what++) due(none.most(what), NONE);
    Gate x = of("client;client reads 1 2 writes 2 3;client reads 7 8 9;client;client");
    due(x.most(0), 0);
    due(x.most(1), 0);
    due(x.most(2), 1);
    x.commit(x.begin(4));
    due(x.most(0), 4);
    x.commit(x.begin(2));
    due(x.most(0), 2);
    x.commit(x.begin(4));
    due(x.most(0), 4);
    x.abort(x.begin(3));
    due(x.most(1), 3);
    x.abort(x.begin(1));
    due(x.most(1), 1);
    x.abort(x.begin(3));
    due(x.most(1), 3);
    x.commit(x.begin(3));
    due(x.most(1), 1);
    due(of("client;client").most(2), 0);
    due(of("client;client writes 0").most(2), 1);
    due(of("client reads 1;client reads 1 writes 1;client reads 5 4").most(2), 2);
    due(of("client reads 1 2;client writes 0 1;client reads 8 writes 9").most(2), 0);
  }

  @Says(promise = 34, value = "BUSIEST (what 0), UNLUCKIEST (1), GREEDIEST (2); NONE. NoSuchElementException: another what")
  static void mostOfAnotherWhat() {
    for (Gate x : new Gate[] {new Gate(), of("client")}) {
      for (int what : new int[] {-1, 3, Integer.MAX_VALUE, Integer.MIN_VALUE}) refused(ELEMENT, () -> x.most(what));
    }
  }

  @Says(promise = 35, value = "RUNNING ones, as bits")
  static void runningOnes() {
    Gate x = of("client;client");
    due(x.running(), 0);
    x.begin(0);
    due(x.running(), 1);
    x.begin(1);
    due(x.running(), 3);
    x.commit(0);
    due(x.running(), 2);
    due(x.count(1), 1);
    x.abort(1);
    due(x.running(), 0);
    due(x.count(1), 0);
  }

  @Says(promise = 36, value = "FINISHED ones, as bits")
  static void finishedOnes() {
    Gate x = of("client;client;keep 6");
    due(x.finished(), 0);
    x.begin(0);
    int bits = 0;
    for (int i = 1; i <= 6; i++) {
      x.commit(x.begin(1));
      bits |= 1 << i;
      due(x.finished(), bits);
      due(x.count(2), i);
    }
    x.commit(x.begin(1));
    due(x.finished(), 252);
    due(x.count(2), 6);
    x.abort(0);
    due(x.finished(), 0);
    due(x.count(2), 0);
  }

  @Says("HOT: the KEY that the most CLIENTS use (of several the least)")
  static void hottest() {
    due(new Gate().hot(), 0);
    due(of("client;client").hot(), 0);
    due(of("client reads 9").hot(), 9);
    due(of("client reads 9 3").hot(), 3);
    due(of("client reads 8 2;client writes 2 8;client reads 0").hot(), 2);
    // Reading and writing a key is one use of it.
    due(of("client reads 3 writes 3;client reads 7;client writes 7").hot(), 7);
    due(of("client reads 3 writes 3;client reads 7").hot(), 3);
  }

  @Says(promise = 37, value = "HOT.")
  static void hottestOfAll() {
    due(of(lines("client reads 0 1 2 3 4 5 6 7 8 9", 4) + ";client writes 9").hot(), 9);
    due(of(lines("client writes 9 0", 5)).hot(), 0);
  }

  @Says("TWINS: pairs of CLIENTS of like READS and WRITES")
  static void alike() {
    due(new Gate().twins(), 0);
    due(of("client").twins(), 0);
    due(of("client;client only").twins(), 1);
    due(of("client reads 1;client writes 1").twins(), 0);
    due(of("client reads 1 writes 2;client reads 1 writes 2;client reads 1 writes 2 3;client reads 1 2 writes 2").twins(), 1);
    due(of("client reads 2 1;client reads 1 2 2;client reads 1 2 only;client writes 5;client writes 5 5").twins(), 4);
  }

  @Says(promise = 38, value = "TWINS.")
  static void allAlike() {
    int[] pairs = {0, 0, 1, 3, 6, 10};
    for (int i = 1; i <= 5; i++) due(of(lines("client reads 3 writes 4", i)).twins(), pairs[i]);
  }

  @Says("SHARE of a CLIENT of DONE of all, in hundredths, rounded down (0 without)")
  static void shareRoundedDown() {
    Gate x = of("client;client;client");
    for (int i = 0; i < 3; i++) due(x.client(i, 8), 0);
    x.commit(x.begin(1));
    due(x.client(1, 8), 100);
    due(x.client(0, 8), 0);
    x.commit(x.begin(2));
    due(x.client(1, 8), 50);
    x.commit(x.begin(2));
    due(x.client(1, 8), 33);
    due(x.client(2, 8), 66);
    for (int i = 0; i < 97; i++) x.commit(x.begin(1));
    due(x.client(1, 8), 98);
    due(x.client(2, 8), 2);
    x.commit(x.begin(0));
    due(x.client(0, 8), 0);
    due(x.client(1, 8), 97);
    due(x.client(2, 8), 1);
  }

  @Says(promise = 26, value = "ROUNDS.")
  static void roundsOfTwoAndThree() {
    due(of("client writes 1;client reads 1;client writes 1").rounds(), 3);
    due(of("client reads 1;client writes 1;client reads 1").rounds(), 2);
  }

  @Says(promise = 27, value = "COVER, as bits")
  static void coverOfAllKeys() {
    due(of("client reads 0 1 2 3 4 5 6 7 8 9;client writes 9").cover(), 512);
    due(of("client reads 8;client writes 9").cover(), 768);
  }

  @Says(promise = 10, value = "Of a CLIENT what 0 READS, 1 WRITES, as bits, 2 1 if ONLY, 3 RETRIES, 4 DONE, 5 its RUNNING SLOT (NONE),")
  static void whatOfAClient() {
    Gate x = of("client;client reads 0 writes 9;client reads 9 writes 0;client reads 0 1 2 3 4 5 6 7 8 9 only;client writes 0 1 2 3 4 5 6 7 8 9");
    int[][] facts = {{0, 0, 0}, {1, 512, 0}, {512, 1, 0}, {1023, 0, 1}, {0, 1023, 0}};
    for (int i = 0; i < 5; i++) {
      for (int what = 0; what < 3; what++) due(x.client(i, what), facts[i][what]);
      due(x.client(i, 3), 0);
      due(x.client(i, 4), 0);
      due(x.client(i, 5), NONE);
    }
    x.begin(4);
    x.begin(0);
    due(x.client(4, 5), 0);
    due(x.client(0, 5), 1);
    due(x.client(1, 5), NONE);
    x.commit(1);
    // A FINISHED one is no RUNNING one, though it is kept.
    due(x.slot(1, 0), 2);
    due(x.client(0, 5), NONE);
    due(x.client(0, 4), 1);
    x.abort(0);
    due(x.client(4, 3), 1);
    due(x.client(4, 5), NONE);
    refused(INDEX, () -> x.client(5, 0));
    refused(INDEX, () -> x.client(-1, 0));
    refused(ELEMENT, () -> x.client(4, 9));
    refused(ELEMENT, () -> x.client(4, -1));
  }

  @Says("READS and WRITES: sets of KEYS; ONLY (it only reads) or not; RETRIES (0 at first), DONE (0 at first)")
  static void clientsAtFirst() {
    Gate x = of("client reads 2 7 only;client reads 2 writes 7 2");
    int[][] facts = {{132, 0, 1, 0, 0}, {4, 132, 0, 0, 0}};
    for (int i = 0; i < 2; i++) for (int what = 0; what < 5; what++) due(x.client(i, what), facts[i][what]);
    x.abort(x.begin(1));
    x.abort(x.begin(1));
    x.commit(x.begin(0));
    // A client told later has 0 of both, whatever the others have.
    store(x, "client only");
    int[][] later = {{132, 0, 1, 0, 1}, {4, 132, 0, 2, 0}, {0, 0, 1, 0, 0}};
    for (int i = 0; i < 3; i++) for (int what = 0; what < 5; what++) due(x.client(i, what), later[i][what]);
    // One that only reads may be told to read any KEY, and to write none.
    x.begin(0);
    due(x.read(0, 5), 0);
    refused(STATE, () -> x.write(0, 2));
  }

  @Says(promise = 10, value = "7 ROUND, 8 SHARE")
  static void roundAndShareOfAClient() {
    Gate x = of("client writes 3;client reads 3;client writes 3;client writes 9");
    int[] rounds = {0, 1, 2, 0};
    for (int i = 0; i < 4; i++) due(x.client(i, 7), rounds[i]);
    for (int i = 0; i < 4; i++) due(x.client(i, 8), 0);
    int[] commits = {3, 0, 4, 1};
    for (int i = 0; i < 4; i++) for (int n = 0; n < commits[i]; n++) x.commit(x.begin(i));
    int[] shares = {37, 0, 50, 12};
    for (int i = 0; i < 4; i++) due(x.client(i, 8), shares[i]);
    // The client told now clashes with the writer of key 9 alone, and comes into the second round.
    store(x, "client reads 9");
    due(x.client(4, 7), 1);
    due(x.client(4, 8), 0);
    due(x.client(3, 7), 0);
    Gate y = of("client reads 9;client writes 9");
    due(y.client(0, 7), 0);
    due(y.client(1, 7), 1);
  }

  @Says("Sets are bits; of none they count for nothing")
  static void setsOfNone() {
    Gate x = of("client");
    x.begin(0);
    int[] sets = {x.client(0, 0), x.client(0, 1), x.slot(0, 4), x.slot(0, 5), x.slot(0, 6), x.slot(0, 7), x.slot(0, 8), x.finished(), x.pivots(),
        x.cut(), x.cover(), x.dooms(0, 2, 0)};
    for (int set : sets) due(set, 0);
    x.commit(0);
    due(x.history(0, 2), 0);
    due(x.history(0, 3), 0);
    due(x.running(), 0);
    tell(x, 0, 1, 1, 1);
    due(x.who(), 0);
  }
}
