/** Promise 11, 39, 40 and 43: ticks, draws that go round, trials and spans. */
final class TickEdges extends Bench {
  /** SEED by one DRAW more, in numbers that cannot go round, and then as an int. */
  private static int next(int seed) {
    long l = (1103515245L * seed + 12345L) % (1L << 32);
    if (l < 0) l += 1L << 32;
    return (int) (l >= 1L << 31 ? l - (1L << 32) : l);
  }

  /** Bits 16 to 30 of the SEED. */
  private static int draw(int seed) { return (int) ((seed + (1L << 32)) / 65536 % 32768); }

  private static final int[] SEEDS = {1, 0, -1, 2, 12345, Integer.MIN_VALUE, Integer.MAX_VALUE, 65536, -65536, 77, 2000000000, -2000000000,
      1 << 30, 3 << 29, 0x7fff0000, 0xffff, 987654321, -987654321, 31, 32};

  @Says("the CLIENT of the number DRAW modulo how many there are has its STEP")
  static void whoHasItsStep() {
    for (int clients = 1; clients <= 5; clients++) {
      Gate x = of(lines("client", clients));
      for (int seed : SEEDS) {
        int client = draw(next(seed)) % clients;
        int[] ahead = new int[clients];
        for (int i = 0; i < clients; i++) ahead[i] = x.client(i, 5);
        x.seed(seed);
        int commits = x.ticks(1);
        due(commits, ahead[client] == NONE ? 0 : 1);
        for (int i = 0; i < clients; i++) due((x.client(i, 5) == NONE) == (ahead[i] == NONE), i != client, line() + ", seed " + seed);
      }
    }
  }

  @Says("DRAW: SEED is 1103515245 times SEED and 12345, as an int that goes round; bits 16 to 30 (SEED 1 at first)")
  static void seedGoesRound() {
    Gate x = of("client");
    due(x.seed(1), 1);
    x.ticks(1);
    due(x.seed(1), 1103527590);
    for (int seed : SEEDS) {
      x.seed(seed);
      x.ticks(1);
      due(x.seed(seed), next(seed));
      x.ticks(3);
      due(x.seed(0), next(next(next(seed))));
    }
    // With five clients bit 31, bit 15 or bit 30 would choose another one; some of the seeds above show that.
    int bit31 = 0;
    int bit30 = 0;
    int bit15 = 0;
    for (int seed : SEEDS) {
      int s = next(seed);
      if ((s >>> 16) % 5 != draw(s) % 5) bit31++;
      if ((s >>> 16 & 16383) % 5 != draw(s) % 5) bit30++;
      if ((s >>> 15 & 65535) % 5 != draw(s) % 5) bit15++;
    }
    due(bit31 > 0 && bit30 > 0 && bit15 > 0, true);
  }

  @Says(promise = 43, value = "SEED: what it was")
  static void seedAnswers() {
    Gate x = new Gate();
    int was = 1;
    for (int seed : SEEDS) {
      due(x.seed(seed), was);
      was = seed;
    }
    due(x.count(13), 0);
  }

  @Says("(without CLIENTS nothing, no DRAW)")
  static void withoutClients() {
    Gate x = new Gate();
    due(x.ticks(60), 0);
    due(x.seed(1), 1);
    due(x.count(5), 0);
    due(x.count(12), 0);
    due(x.trial(60, false), 0);
    due(x.trial(60, true), 0);
    due(x.span(60, true), 0);
    due(x.span(60, false), 0);
    store(x, "purse 7");
    due(x.trial(60, true), 7);
  }

  @Says(promise = 11, value = "So many TICKS more (1 to 60): how many commits there were in these. IllegalArgumentException: they are none")
  static void oneToSixty() {
    Gate x = of("client reads 7 writes 7");
    refused(ARGUMENT, () -> x.ticks(0));
    refused(ARGUMENT, () -> x.ticks(-1));
    refused(ARGUMENT, () -> x.ticks(61));
    refused(ARGUMENT, () -> x.ticks(Integer.MAX_VALUE));
    refused(ARGUMENT, () -> x.ticks(Integer.MIN_VALUE));
    due(x.seed(1), 1);
    due(x.count(13), 0);
    due(x.ticks(1), 0);
    due(x.count(5), 1);
    due(x.ticks(60), 15);
    due(x.count(5), 31);
    due(x.ticks(59), 15);
    due(x.ticks(3), 0);
    due(x.ticks(1), 1);
    due(x.count(10), 31);
    due(x.ticks(2), 0);
    due(x.ticks(2), 1);
    due(x.key(7, 0), 32);
  }

  @Says("else READ of the least KEY of READS at which that HAS not LOOKED; without such a one WRITE of the least KEY of WRITES that it HAS not WRITTEN; else COMMIT")
  static void theStepsInTheirOrder() {
    Gate x = of("client reads 9 0 4 writes 8 1 0");
    int[][] steps = {{0, 0}, {1, 0}, {17, 0}, {529, 0}, {529, 1}, {529, 3}, {529, 259}};
    for (int[] step : steps) {
      due(x.ticks(1), 0);
      due(x.slot(0, 4), step[0]);
      due(x.slot(0, 6), step[1]);
    }
    due(x.ticks(1), 1);
    due(x.slot(0, 0), 0);
    due(x.history(0, 2), 529);
    due(x.history(0, 3), 259);
    // Without keys it commits right behind its begin; a key that it reads and has written by hand is looked at alone.
    Gate y = of("client");
    due(y.ticks(2), 1);
    Gate z = of("client reads 3");
    z.begin(0);
    z.write(0, 3);
    due(z.ticks(1), 0);
    due(z.slot(0, 4), 8);
    due(z.slot(0, 5), 0);
    due(z.ticks(1), 1);
  }

  @Says("WRITE of a KEY by a RUNNING SLOT that is not ONLY: it WAITS (nothing comes of it)")
  static void aStepThatWaits() {
    Gate x = of("client writes 1;client writes 1");
    x.begin(0);
    x.write(0, 1);
    x.begin(1);
    int seed = 1;
    while (draw(next(seed)) % 2 == 0) seed++;
    for (int i = 0; i < 3; i++) {
      x.seed(seed);
      due(x.ticks(1), 0);
      due(x.client(1, 6), 201);
      due(x.slot(1, 6), 0);
      due(x.count(5), 2);
      due(x.count(12), 0);
      due(x.seed(1), next(seed));
    }
    due(x.count(13), 6);
  }

  /** Clients without keys: the first of each two steps begins, the second one commits. */
  private static int commitsFrom(int seed, int n, int clients) {
    int[] steps = new int[clients];
    int commits = 0;
    int s = seed;
    for (int i = 0; i < n; i++) {
      s = next(s);
      if (++steps[draw(s) % clients] % 2 == 0) commits++;
    }
    return commits;
  }

  @Says(promise = 39, value = "TRIAL: DONE of all (purse false), or PURSE. IllegalArgumentException: N is none (0 to 60)")
  static void trialOfNoneToSixty() {
    Gate x = of("client;client;client;purse 5", "pay 2");
    for (int n : new int[] {0, 1, 2, 3, 59, 60}) {
      due(x.trial(n, false), commitsFrom(1, n, 3));
      due(x.trial(n, true), 5 + 3 * commitsFrom(1, n, 3));
    }
    for (int n : new int[] {-1, 61, Integer.MIN_VALUE, Integer.MAX_VALUE}) {
      refused(ARGUMENT, () -> x.trial(n, false));
      refused(ARGUMENT, () -> x.trial(n, true));
    }
    // Nothing stays, and it goes on from now.
    due(x.count(5) + x.count(12) + x.count(10) + x.count(13) + x.running(), 0);
    due(x.count(7), 5);
    due(x.seed(99), 1);
    due(x.trial(60, false), commitsFrom(99, 60, 3));
    due(x.seed(1), 99);
    int done = x.ticks(60);
    due(x.trial(0, false), done);
    due(x.trial(0, true), 5 + 3 * done);
    due(x.trial(60, false), done + x.ticks(60));
    // PURSE has its end there, too.
    Gate y = of("client;purse 999", lines("pay 40", 12));
    due(y.trial(36, true), 999 + 18 * 481);
    due(y.trial(38, true), 9999);
    due(y.count(7), 999);
  }

  @Says({"TRIAL of N TICKS (0 to 60) from now (draws, too; nothing stays)", "DONE of all then; PURSE then"})
  static void nothingStays() {
    // Not what a trial writes, reads, aborts or summarises either: the same ticks come out as a trial told, twice.
    Gate x = of("client reads 0 1 writes 0;client reads 0 1 writes 1;client reads 1 writes 0;client reads 0 1 only;keep 1", "pay 3 if retried;blame 2 if only");
    for (int i = 0; i < 6; i++) {
      int done = x.trial(60, false);
      int purse = x.trial(60, true);
      int least = x.span(60, false);
      due(x.trial(60, false), done);
      due(x.span(60, false), least);
      int from = x.count(10);
      due(x.ticks(60), done - from);
      due(x.count(10), done);
      due(x.count(7), purse);
      due(x.count(13), i + 1);
    }
  }

  @Says(promise = 40, value = "SPAN: the least (most false), or the greatest. IllegalArgumentException: N is none (0 to 60)")
  static void spanOfNoneToSixty() {
    Gate x = of("client;client;client;client;client");
    for (int n : new int[] {0, 1, 2, 3, 59, 60}) {
      int least = 99;
      int greatest = 0;
      for (int seed = 1; seed <= 6; seed++) {
        least = Math.min(least, commitsFrom(seed, n, 5));
        greatest = Math.max(greatest, commitsFrom(seed, n, 5));
      }
      due(x.span(n, false), least, line() + ", n " + n);
      due(x.span(n, true), greatest, line() + ", n " + n);
    }
    for (int n : new int[] {-1, 61, Integer.MIN_VALUE, Integer.MAX_VALUE}) {
      refused(ARGUMENT, () -> x.span(n, false));
      refused(ARGUMENT, () -> x.span(n, true));
    }
    due(x.seed(1), 1);
    due(x.count(5) + x.count(10), 0);
  }

  @Says("SPAN: the least and the greatest DONE of all so from SEED 1, 2, .. 6")
  static void eachSeedCounts() {
    // For each of the seeds 1 and 6 there is a number of ticks at which it alone is the least, or the greatest, and for
    // each of 0 and 7 one at which it would be: a span of other seeds would show.
    boolean[] met = new boolean[4];
    for (int clients = 2; clients <= 5; clients++) {
      Gate x = of(lines("client", clients));
      x.seed(4242);
      for (int n = 0; n <= 60; n++) {
        int[] least = {99, 99, 99, 99, 99};
        int[] most = {0, 0, 0, 0, 0};
        int[][] spans = {{1, 6}, {2, 6}, {1, 5}, {0, 6}, {1, 7}};
        for (int i = 0; i < 5; i++) {
          for (int seed = spans[i][0]; seed <= spans[i][1]; seed++) {
            least[i] = Math.min(least[i], commitsFrom(seed, n, clients));
            most[i] = Math.max(most[i], commitsFrom(seed, n, clients));
          }
        }
        due(x.span(n, false), least[0], line() + ", n " + n);
        due(x.span(n, true), most[0], line() + ", n " + n);
        for (int i = 1; i < 5; i++) met[i - 1] |= least[i] != least[0] || most[i] != most[0];
      }
      due(x.seed(1), 4242);
    }
    for (int i = 0; i < 4; i++) due(met[i], true);
    // DONE of all so far counts.
    Gate one = of("client");
    one.ticks(7);
    due(one.span(0, false), 3);
    due(one.span(0, true), 3);
    due(one.span(1, false), 4);
    due(one.span(60, true), 33);
  }

  @Says("STAMP 0 to 99999 (0 at first)")
  static void stampGoesOn() {
    // As far as 512 calls can bring it.
    Gate x = of("client");
    due(x.count(5), 0);
    int calls = 500;
    for (int i = 1; i <= calls; i++) due(x.ticks(60), 30);
    due(x.count(5), 60 * calls);
    due(x.log(0, 0), 60 * calls);
    due(x.history(11, 1), 60 * calls);
    due(x.count(10), 30 * calls);
    due(x.begin(0), 0);
    due(x.slot(0, 2), 60 * calls + 1);
  }
}
