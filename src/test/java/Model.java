import java.util.ArrayDeque;
import java.util.ArrayList;
import java.util.Comparator;
import java.util.Deque;
import java.util.List;
import java.util.NoSuchElementException;
import java.util.TreeSet;
import java.util.function.Function;
import java.util.function.Predicate;

/**
 * The document said again, with sets, lists and recursion, without any thought of room or speed: what SerialGate
 * answers is held against it by ModelTest. It shares no line with SerialGate on purpose.
 */
final class Model {
  static final int NONE = -1;

  static final class Wrong extends Exception {
    private static final long serialVersionUID = 1L;
    final int at;
    Wrong(int at) { this.at = at; }
  }

  static final class Client {
    TreeSet<Integer> reads = new TreeSet<>();
    TreeSet<Integer> writes = new TreeSet<>();
    boolean only;
    int retries, done;
    TreeSet<Integer> uses() { TreeSet<Integer> u = new TreeSet<>(reads); u.addAll(writes); return u; }
    Client copy() {
      Client c = new Client();
      c.reads.addAll(reads); c.writes.addAll(writes); c.only = only; c.retries = retries; c.done = done;
      return c;
    }
  }

  static final class Tx {
    int number, client, began, ended, outmin, inmax;
    boolean running = true, only, spoilt;
    int[] seen;
    TreeSet<Integer> looked = new TreeSet<>(), read = new TreeSet<>(), written = new TreeSet<>();
    TreeSet<Integer> edges = new TreeSet<>();
    Tx copy() {
      Tx t = new Tx();
      t.number = number; t.client = client; t.began = began; t.ended = ended; t.outmin = outmin; t.inmax = inmax;
      t.running = running; t.only = only; t.spoilt = spoilt; t.seen = seen.clone();
      t.looked.addAll(looked); t.read.addAll(read); t.written.addAll(written); t.edges.addAll(edges);
      return t;
    }
  }

  static final class Row {
    int client, ended;
    TreeSet<Integer> looked, written;
    int[] seen, wrote;
  }

  static final class LawLine {
    String kind;
    int n;
    Function<Tx, Boolean> when;
  }

  final class State {
    List<Client> clients = new ArrayList<>();
    Tx[] slots = new Tx[8];
    int[] version = new int[10], lastRead = new int[10], lastWritten = new int[10], lastOut = new int[10];
    int stamp, keep = 3, purse, seed = 1, texts;
    List<Row> history = new ArrayList<>();
    List<int[]> log = new ArrayList<>();
    TreeSet<Integer> abortedNow = new TreeSet<>();

    State copy() {
      State s = new State();
      for (Client c : clients) s.clients.add(c.copy());
      for (int i = 0; i < 8; i++) s.slots[i] = slots[i] == null ? null : slots[i].copy();
      s.version = version.clone(); s.lastRead = lastRead.clone(); s.lastWritten = lastWritten.clone(); s.lastOut = lastOut.clone();
      s.stamp = stamp; s.keep = keep; s.purse = purse; s.seed = seed; s.texts = texts;
      s.history.addAll(history);
      s.log.addAll(log);
      return s;
    }

    List<Tx> all(Predicate<Tx> which) {
      List<Tx> found = new ArrayList<>();
      for (Tx t : slots) if (t != null && which.test(t)) found.add(t);
      return found;
    }

    Tx runningOf(int client) {
      List<Tx> mine = all(t -> t.running && t.client == client);
      return mine.isEmpty() ? null : mine.get(0);
    }

    boolean concurrent(Tx other, Tx t) { return other != t && (other.running || other.ended > t.began); }

    int first(Tx t) {
      TreeSet<Integer> ends = new TreeSet<>();
      for (int e : t.edges) if (!slots[e].running) ends.add(slots[e].ended);
      if (t.outmin > 0) ends.add(t.outmin);
      return ends.isEmpty() ? 0 : ends.first();
    }

    boolean safe(Tx t) {
      return t.running && t.only && !t.spoilt && all(o -> !o.only && o.began < t.began && o.running).isEmpty();
    }

    boolean pivot(Tx t) {
      boolean in = t.inmax > 0 || !all(o -> o.edges.contains(t.number)).isEmpty();
      boolean out = t.outmin > 0 || !t.edges.isEmpty();
      return in && out;
    }

    int lawSum(String kind, Tx t) {
      int sum = 0;
      if (law != null) for (LawLine l : law) if (l.kind.equals(kind) && l.when.apply(t)) sum += l.n;
      return sum;
    }

    int blame(Tx t) { now = this; return Math.max(0, 10 + lawSum("blame", t) - lawSum("spare", t)); }
    int pay(Tx t) { now = this; return 1 + lawSum("pay", t); }

    void note(int client, int kind, int slot) {
      log.add(new int[] {stamp, client, kind, slot});
      if (log.size() > 60) log.remove(0);
    }

    int leastFree() {
      for (int i = 0; i < 8; i++) if (slots[i] == null) return i;
      return NONE;
    }

    int begin(int client) {
      int free = leastFree();
      if (free == NONE) return NONE;
      Tx t = new Tx();
      stamp++;
      t.number = free; t.client = client; t.began = stamp; t.only = clients.get(client).only; t.seen = version.clone();
      slots[free] = t;
      return free;
    }

    void remove(Tx t) {
      slots[t.number] = null;
      for (Tx o : all(o -> true)) o.edges.remove(t.number);
    }

    void aborted(Tx t, int why) {
      note(t.client, why, t.number);
      abortedNow.add(t.number);
      remove(t);
      Client c = clients.get(t.client);
      if (c.retries < 99) c.retries++;
    }

    void read(Tx t, int key) {
      t.looked.add(key);
      if (t.written.contains(key) || safe(t)) return;
      t.read.add(key);
      for (Tx o : all(o -> concurrent(o, t) && o.written.contains(key))) t.edges.add(o.number);
      if (lastWritten[key] > t.began) {
        t.outmin = t.began + 1;
        if (lastOut[key] > 0 && (!t.only || lastOut[key] < t.began)) aborted(t, 1);
      }
      dangers();
      tidy();
    }

    boolean waits(Tx t, int key) { return !all(o -> o != t && o.running && o.written.contains(key)).isEmpty(); }

    void write(Tx t, int key) {
      if (waits(t, key)) return;
      if (version[key] != t.seen[key]) {
        aborted(t, 2);
      } else {
        t.written.add(key);
        for (Tx o : all(o -> concurrent(o, t) && o.read.contains(key))) o.edges.add(t.number);
        if (lastRead[key] > t.began && lastRead[key] > t.inmax) t.inmax = lastRead[key];
      }
      dangers();
      tidy();
    }

    int commit(Tx t) {
      int pay = pay(t);
      stamp++;
      t.ended = stamp;
      t.running = false;
      for (int k : t.written) if (version[k] < 9999) version[k]++;
      Client c = clients.get(t.client);
      c.done++;
      c.retries = 0;
      purse = Math.min(9999, purse + pay);
      Row r = new Row();
      r.client = t.client; r.ended = t.ended; r.looked = new TreeSet<>(t.looked); r.written = new TreeSet<>(t.written);
      r.seen = t.seen.clone(); r.wrote = version.clone();
      history.add(r);
      if (history.size() > 12) history.remove(0);
      note(t.client, 0, t.number);
      int first = first(t);
      if (!t.only && first > 0) {
        for (Tx o : all(o -> o.running && o.only && o.began > first && o.began > t.began)) o.spoilt = true;
      }
      dangers();
      tidy();
      return t.ended;
    }

    void dangers() {
      while (true) {
        Tx victim = nextVictim();
        if (victim == null) return;
        aborted(victim, 3);
      }
    }

    Tx nextVictim() {
      for (Tx p : all(p -> true)) {
        int first = first(p);
        if (first <= 0) continue;
        if (!p.running && first >= p.ended) continue;
        if (p.running && p.inmax > 0 && first <= p.inmax) return p;
        for (Tx a : all(a -> a.edges.contains(p.number))) {
          if (!a.running && first > a.ended) continue;
          if (a.only && first >= a.began) continue;
          if (a.running && p.running) return blame(a) > blame(p) ? a : p;
          if (a.running) return a;
          if (p.running) return p;
        }
      }
      return null;
    }

    void tidy() {
      List<Tx> done = all(t -> !t.running && all(r -> r.running && r.began <= t.ended).isEmpty());
      done.sort(Comparator.comparingInt(t -> t.ended));
      for (Tx t : done) leave(t, 6);
      while (all(t -> !t.running).size() > keep) {
        List<Tx> rest = all(t -> !t.running);
        rest.sort(Comparator.comparingInt(t -> t.ended));
        Tx t = rest.get(0);
        for (int k : t.read) lastRead[k] = Math.max(lastRead[k], t.ended);
        int first = first(t);
        for (int k : t.written) {
          lastWritten[k] = Math.max(lastWritten[k], t.ended);
          if (first > 0 && first < t.ended && (lastOut[k] == 0 || lastOut[k] > first)) lastOut[k] = first;
        }
        leave(t, 5);
      }
    }

    void leave(Tx t, int kind) {
      note(t.client, kind, t.number);
      for (Tx o : all(o -> o.edges.contains(t.number))) if (o.outmin == 0 || o.outmin > t.ended) o.outmin = t.ended;
      for (int e : t.edges) slots[e].inmax = Math.max(slots[e].inmax, t.ended);
      remove(t);
    }

    int stepOf(int client) {
      Tx t = runningOf(client);
      if (t == null) return 0;
      for (int k : clients.get(client).reads) if (!t.looked.contains(k)) return 100 + k;
      for (int k : clients.get(client).writes) if (!t.written.contains(k)) return 200 + k;
      return 300;
    }

    int ticks(int n) {
      int commits = 0;
      for (int i = 0; i < n; i++) {
        if (clients.isEmpty()) continue;
        seed = (int) (1103515245L * seed + 12345L);
        int draw = (int) ((seed & 0xffffffffL) >> 16) % 32768;
        int client = draw % clients.size();
        int step = stepOf(client);
        Tx t = runningOf(client);
        if (step == 0) begin(client);
        else if (step == 300) { commit(t); commits++; }
        else if (step >= 200) write(t, step - 200);
        else read(t, step - 100);
      }
      return commits;
    }

    int done() { int sum = 0; for (Client c : clients) sum += c.done; return sum; }
  }

  // ---- texts ----

  static final class Token {
    final char type; // w word, n number, e end, or the sign itself
    final String text;
    final int at;
    Token(char type, String text, int at) { this.type = type; this.text = text; this.at = at; }
    boolean is(String s) { return text.equals(s) && type != 'e'; }
  }

  final class Parser {
    final List<Token> tokens = new ArrayList<>();
    int next = 0;

    Parser(int[] bytes) {
      int i = 0;
      while (i < bytes.length) {
        int from = i;
        StringBuilder b = new StringBuilder();
        if (bytes[i] == 32) { i++; continue; }
        if (bytes[i] >= 'a' && bytes[i] <= 'z') {
          while (i < bytes.length && bytes[i] >= 'a' && bytes[i] <= 'z') b.append((char) bytes[i++]);
          tokens.add(new Token('w', b.toString(), from));
        } else if (bytes[i] >= '0' && bytes[i] <= '9') {
          while (i < bytes.length && bytes[i] >= '0' && bytes[i] <= '9') b.append((char) bytes[i++]);
          tokens.add(new Token('n', b.toString(), from));
        } else {
          b.append((char) bytes[i++]);
          tokens.add(new Token('s', b.toString(), from));
        }
      }
      tokens.add(new Token('e', "", bytes.length));
    }

    Token peek() { return tokens.get(next); }
    Wrong wrong() { return new Wrong(peek().at); }
    boolean take(String s) { if (peek().is(s)) { next++; return true; } return false; }
    int number(int most) throws Wrong {
      Token t = peek();
      if (t.type != 'n' || t.text.length() > 3 || Integer.parseInt(t.text) > most) throw wrong();
      next++;
      return Integer.parseInt(t.text);
    }

    void storeText(State s) throws Wrong {
      if (peek().type == 'e') return;
      int lines = 0;
      do {
        if (++lines > 14) throw wrong();
        storeLine(s);
      } while (take(";"));
      if (peek().type != 'e') throw wrong();
    }

    TreeSet<Integer> keys() throws Wrong {
      TreeSet<Integer> keys = new TreeSet<>();
      int told = 0;
      do {
        if (++told > 10) throw wrong();
        keys.add(number(9));
      } while (peek().type == 'n');
      return keys;
    }

    void storeLine(State s) throws Wrong {
      if (peek().is("client")) {
        if (s.clients.size() == 5) throw wrong();
        next++;
        Client c = new Client();
        if (take("reads")) c.reads = keys();
        if (take("writes")) c.writes = keys();
        if (peek().is("only")) {
          if (!c.writes.isEmpty()) throw wrong();
          next++;
          c.only = true;
        }
        s.clients.add(c);
      } else if (take("version")) {
        Wrong here = wrong();
        int key = number(9);
        if (!s.all(t -> t.running && t.written.contains(key)).isEmpty()) throw here;
        s.version[key] = Math.min(9999, s.version[key] + number(999));
      } else if (take("keep")) {
        s.keep = number(6);
      } else if (take("purse")) {
        s.purse = number(999);
      } else {
        throw wrong();
      }
    }

    List<LawLine> lawText() throws Wrong {
      List<LawLine> lines = new ArrayList<>();
      if (peek().type == 'e') return lines;
      do {
        if (lines.size() == 12) throw wrong();
        LawLine l = new LawLine();
        l.kind = peek().text;
        if (!take("blame") && !take("spare") && !take("pay")) throw wrong();
        l.n = number(40);
        l.when = t -> true;
        if (take("if")) l.when = any(0);
        lines.add(l);
      } while (take(";"));
      if (peek().type != 'e') throw wrong();
      return lines;
    }

    Function<Tx, Boolean> any(int deep) throws Wrong {
      Function<Tx, Boolean> left = both(deep);
      while (take("or")) {
        Function<Tx, Boolean> a = left, b = both(deep);
        left = t -> a.apply(t) || b.apply(t);
      }
      return left;
    }

    Function<Tx, Boolean> both(int deep) throws Wrong {
      Function<Tx, Boolean> left = atom(deep);
      while (take("and")) {
        Function<Tx, Boolean> a = left, b = atom(deep);
        left = t -> a.apply(t) && b.apply(t);
      }
      return left;
    }

    Function<Tx, Boolean> atom(int deep) throws Wrong {
      if (peek().is("not") || peek().is("(")) {
        if (deep == 6) throw wrong();
        if (take("not")) {
          Function<Tx, Boolean> a = atom(deep + 1);
          return t -> !a.apply(t);
        }
        next++;
        Function<Tx, Boolean> a = any(deep + 1);
        if (!take(")")) throw wrong();
        return a;
      }
      if (take("only")) return t -> t.only;
      if (take("pivot")) return t -> now.pivot(t);
      if (take("retried")) return t -> now.clients.get(t.client).retries > 0;
      Function<Tx, Integer> a = sum();
      boolean less = peek().is("<");
      if (!take("<") && !take(">")) throw wrong();
      Function<Tx, Integer> b = sum();
      return t -> less ? a.apply(t) < b.apply(t) : a.apply(t) > b.apply(t);
    }

    Function<Tx, Integer> sum() throws Wrong {
      Function<Tx, Integer> left = part();
      while (take("+")) {
        Function<Tx, Integer> a = left, b = part();
        left = t -> a.apply(t) + b.apply(t);
      }
      return left;
    }

    Function<Tx, Integer> part() throws Wrong {
      if (peek().type == 'n') { int n = number(999); return t -> n; }
      if (take("slot")) return t -> t.number;
      if (take("client")) return t -> t.client;
      if (take("age")) return t -> now.stamp - t.began;
      if (take("reads")) return t -> t.read.size();
      if (take("writes")) return t -> t.written.size();
      if (take("retries")) return t -> now.clients.get(t.client).retries;
      if (take("stamp")) return t -> now.stamp % 100;
      throw wrong();
    }
  }

  // ---- the face ----

  State state = new State();
  State now = state;
  List<LawLine> law = null;
  State imageState = null;
  List<LawLine> imageLaw = null;
  Deque<State> acts = new ArrayDeque<>();
  List<Integer> tape = new ArrayList<>();
  int fault = NONE;

  private int[] useTape() {
    int[] bytes = new int[tape.size()];
    for (int i = 0; i < bytes.length; i++) bytes[i] = tape.get(i);
    tape.clear();
    return bytes;
  }

  private static int bits(Iterable<Integer> set) { int b = 0; for (int i : set) b |= 1 << i; return b; }
  private static int txBits(List<Tx> set) { int b = 0; for (Tx t : set) b |= 1 << t.number; return b; }
  private static void slotCheck(int s) { if (s < 0 || s > 7) throw new IndexOutOfBoundsException(); }
  private static void keyCheck(int k) { if (k < 0 || k > 9) throw new IndexOutOfBoundsException(); }
  private void clientCheck(int c) { if (c < 0 || c >= state.clients.size()) throw new IndexOutOfBoundsException(); }
  private static void whatCheck(int w, int most) { if (w < 0 || w > most) throw new NoSuchElementException(); }
  private Tx runningSlot(int s) {
    if (state.slots[s] == null || !state.slots[s].running) throw new IllegalStateException();
    return state.slots[s];
  }
  private void act() { acts.addLast(state.copy()); if (acts.size() > 12) acts.removeFirst(); }

  int feed(int a, int b, int c, int d, int e) {
    if (tape.size() + 20 > 400) return NONE;
    for (int n : new int[] {a, b, c, d, e}) for (int i = 3; i >= 0; i--) tape.add((int) ((n & 0xffffffffL) / (1L << 8 * i) % 256));
    return tape.size();
  }

  boolean end(int n) {
    if (n < 0 || n > tape.size()) return false;
    tape = new ArrayList<>(tape.subList(0, n));
    return true;
  }

  int store() {
    State draft = state.copy();
    try {
      new Parser(useTape()).storeText(draft);
      fault = NONE;
    } catch (Wrong w) {
      fault = w.at;
      throw new IllegalArgumentException();
    }
    if (state.texts == 12) throw new UnsupportedOperationException();
    state = draft;
    state.texts++;
    state.tidy();
    acts.clear();
    return state.texts;
  }

  int law() {
    try {
      law = new Parser(useTape()).lawText();
      fault = NONE;
    } catch (Wrong w) {
      fault = w.at;
      throw new IllegalArgumentException();
    }
    acts.clear();
    return law.size();
  }

  int fault() { return fault; }

  int slot(int slot, int what) {
    slotCheck(slot);
    whatCheck(what, 15);
    Tx t = state.slots[slot];
    if (what == 0) return t == null ? 0 : t.running ? 1 : 2;
    if (t == null) return NONE;
    int to = txBits(state.all(o -> o.edges.contains(slot)));
    return new int[] {0, t.client, t.began, t.running ? 0 : t.ended, bits(t.looked), bits(t.read), bits(t.written), bits(t.edges), to,
        state.first(t), state.blame(t), state.pay(t), t.outmin, t.inmax, state.safe(t) ? 1 : 0, t.spoilt ? 1 : 0}[what];
  }

  int seen(int slot, int key) {
    slotCheck(slot);
    keyCheck(key);
    return state.slots[slot] == null ? NONE : state.slots[slot].seen[key];
  }

  int key(int key, int what) {
    keyCheck(key);
    whatCheck(what, 4);
    List<Tx> writers = state.all(t -> t.running && t.written.contains(key));
    return new int[] {state.version[key], state.lastRead[key], state.lastWritten[key], state.lastOut[key],
        writers.isEmpty() ? NONE : writers.get(0).number}[what];
  }

  int client(int client, int what) {
    clientCheck(client);
    whatCheck(what, 8);
    Client c = state.clients.get(client);
    Tx t = state.runningOf(client);
    int all = state.done();
    return new int[] {bits(c.reads), bits(c.writes), c.only ? 1 : 0, c.retries, c.done, t == null ? NONE : t.number,
        state.stepOf(client), what == 7 ? coloring().get(client) : 0, all == 0 ? 0 : (int) Math.floor(100.0 * c.done / all + 1e-9)}[what];
  }

  int ticks(int n) {
    if (n < 1 || n > 60) throw new IllegalArgumentException();
    act();
    return state.ticks(n);
  }

  int begin(int client) {
    clientCheck(client);
    if (state.runningOf(client) != null || state.leastFree() == NONE) throw new IllegalStateException();
    act();
    return state.begin(client);
  }

  int read(int slot, int key) {
    slotCheck(slot);
    keyCheck(key);
    Tx t = runningSlot(slot);
    act();
    state.read(t, key);
    return state.slots[slot] != t ? NONE : t.seen[key] + (t.written.contains(key) ? 1 : 0);
  }

  boolean write(int slot, int key) {
    slotCheck(slot);
    keyCheck(key);
    Tx t = runningSlot(slot);
    if (t.only || state.waits(t, key)) throw new IllegalStateException();
    act();
    state.write(t, key);
    return state.slots[slot] == t;
  }

  int commit(int slot) {
    slotCheck(slot);
    Tx t = runningSlot(slot);
    act();
    return state.commit(t);
  }

  int abort(int slot) {
    slotCheck(slot);
    Tx t = runningSlot(slot);
    act();
    state.aborted(t, 4);
    state.tidy();
    return t.client;
  }

  int keep(int n) {
    if (n < 0 || n > 6) throw new IllegalArgumentException();
    act();
    int was = state.keep;
    state.keep = n;
    state.tidy();
    return was;
  }

  int dooms(int slot, int what, int key) {
    slotCheck(slot);
    if (what != 2) keyCheck(key);
    if (what < 0 || what > 2) throw new IllegalArgumentException();
    runningSlot(slot);
    State s = state.copy();
    Tx t = s.slots[slot];
    if (what == 0) s.read(t, key);
    if (what == 1 && !t.only) s.write(t, key);
    if (what == 2) s.commit(t);
    return bits(s.abortedNow);
  }

  int pivots() { return txBits(state.all(state::pivot)); }

  int cut() {
    List<Tx> running = state.all(t -> t.running);
    int best = NONE;
    for (int set = 0; set < 256; set++) {
      int cut = set;
      if ((set & ~txBits(running)) != 0) continue;
      boolean good = true;
      for (Tx t : running) {
        if ((set >> t.number & 1) != 0) continue;
        boolean out = (bits(t.edges) & ~set) != 0;
        boolean in = !state.all(o -> (cut >> o.number & 1) == 0 && o.edges.contains(t.number)).isEmpty();
        good &= !(in && out);
      }
      if (good && (best == NONE || Integer.bitCount(set) < Integer.bitCount(best))) best = set;
    }
    return best;
  }

  int history(int row, int what) {
    whatCheck(what, 3);
    if (row < 0 || row >= state.history.size()) return NONE;
    Row r = state.history.get(row);
    return new int[] {r.client, r.ended, bits(r.looked), bits(r.written)}[what];
  }

  int version(int row, int key, boolean wrote) {
    keyCheck(key);
    if (row < 0 || row >= state.history.size()) return NONE;
    Row r = state.history.get(row);
    if (wrote) return r.written.contains(key) ? r.wrote[key] : NONE;
    return r.looked.contains(key) ? r.seen[key] : NONE;
  }

  private static boolean ahead(Row x, Row y) {
    for (int k : x.written) {
      if (y.looked.contains(k) && y.seen[k] >= x.wrote[k]) return true;
      if (y.written.contains(k) && x.wrote[k] < y.wrote[k]) return true;
    }
    for (int k : x.looked) if (y.written.contains(k) && y.wrote[k] > x.seen[k]) return true;
    return false;
  }

  int serial(int k) {
    List<Row> left = new ArrayList<>(state.history);
    List<Integer> order = new ArrayList<>();
    boolean found = true;
    while (found) {
      found = false;
      for (Row r : left) {
        if (left.stream().noneMatch(o -> o != r && ahead(o, r))) {
          order.add(state.history.indexOf(r));
          left.remove(r);
          found = true;
          break;
        }
      }
    }
    return k >= 0 && k < order.size() ? order.get(k) : NONE;
  }

  private boolean clashes(int a, int b) {
    Client x = state.clients.get(a), y = state.clients.get(b);
    return x.writes.stream().anyMatch(y.uses()::contains) || y.writes.stream().anyMatch(x.uses()::contains);
  }

  boolean clash(int client, int other) {
    clientCheck(client);
    clientCheck(other);
    if (client == other) throw new IllegalArgumentException();
    return clashes(client, other);
  }

  int apart() {
    int best = 0;
    for (int set = 0; set < 1 << state.clients.size(); set++) {
      boolean good = true;
      for (int i = 0; i < 5; i++) for (int j = i + 1; j < 5; j++) if ((set >> i & set >> j & 1) != 0) good &= !clashes(i, j);
      if (good && Integer.bitCount(set) > Integer.bitCount(best)) best = set;
    }
    return best;
  }

  /** All ways to put clients into rounds, by numbers, the fewest rounds, then the first. */
  private List<Integer> coloring() {
    int n = state.clients.size();
    List<Integer> best = null;
    int fewest = 99;
    for (int code = 0; code < Math.pow(5, n); code++) {
      List<Integer> way = new ArrayList<>();
      int rest = code;
      for (int i = 0; i < n; i++) { way.add(0, rest % 5); rest /= 5; }
      boolean good = true;
      int used = 0;
      for (int i = 0; i < n; i++) {
        if (way.get(i) > used) good = false;
        used = Math.max(used, way.get(i) + 1);
        for (int j = 0; j < i; j++) if (way.get(i).equals(way.get(j)) && clashes(i, j)) good = false;
      }
      if (good && used < fewest) { fewest = used; best = way; }
    }
    return best;
  }

  int rounds() { int most = 0; for (int r : coloring()) most = Math.max(most, r + 1); return most; }

  int cover() {
    int best = NONE;
    for (int set = 0; set < 1024; set++) {
      boolean good = true;
      for (Client c : state.clients) good &= c.uses().isEmpty() || (bits(c.uses()) & set) != 0;
      if (good && (best == NONE || Integer.bitCount(set) < Integer.bitCount(best))) best = set;
    }
    return best;
  }

  private int[][] rows() {
    int[] bytes = useTape();
    if (bytes.length > 40 || bytes.length % 2 == 1) throw new IllegalArgumentException();
    int[][] rows = new int[bytes.length / 2][];
    for (int i = 0; i < rows.length; i++) {
      rows[i] = new int[] {bytes[2 * i], bytes[2 * i + 1]};
      if (rows[i][0] > 19 || rows[i][1] > 1) throw new IllegalArgumentException();
    }
    return rows;
  }

  private boolean does(Client c, int row) { return (row / 10 == 0 ? c.reads : c.writes).contains(row % 10); }

  private int wrongs(Client c, int[][] rows) {
    int wrong = 0;
    for (int[] r : rows) if (does(c, r[0]) != (r[1] == 1)) wrong++;
    return wrong;
  }

  private List<Integer> fitting(int[][] rows) {
    List<Integer> fit = new ArrayList<>();
    for (int i = 0; i < state.clients.size(); i++) if (wrongs(state.clients.get(i), rows) < 2) fit.add(i);
    return fit;
  }

  int who() { return bits(fitting(rows())); }

  int likely() {
    int[][] rows = rows();
    for (int wrong = 0; wrong < 2; wrong++) {
      for (int i : fitting(rows)) if (wrongs(state.clients.get(i), rows) == wrong) return i;
    }
    return NONE;
  }

  int ask() {
    List<Integer> fit = fitting(rows());
    if (fit.size() < 2) return NONE;
    int best = NONE, least = 99;
    for (int row = 19; row >= 0; row--) {
      int yes = 0;
      for (int c : fit) if (does(state.clients.get(c), row)) yes++;
      int greater = Math.max(yes, fit.size() - yes);
      if (greater <= least) { least = greater; best = row; }
    }
    return best;
  }

  int pairs(int client) {
    if (client != NONE) clientCheck(client);
    int n = state.clients.size();
    int most = NONE;
    int[] best = null;
    // Every way as a number: for each client its partner and 1, the first client's the most weighty.
    for (int code = 0; code < Math.pow(6, n); code++) {
      int[] with = new int[n];
      int rest = code;
      for (int i = n - 1; i >= 0; i--) { with[i] = rest % 6 - 1; rest /= 6; }
      boolean good = true;
      int uses = 0;
      for (int i = 0; i < n && good; i++) {
        if (with[i] == NONE) continue;
        if (with[i] >= n || with[i] == i || with[with[i]] != i || clashes(i, with[i])) good = false;
        uses += state.clients.get(i).uses().size();
      }
      if (good && uses > most) { most = uses; best = with; }
    }
    return client == NONE ? most : best[client];
  }

  int rests(int client, int other) {
    clash(client, other);
    int[] retries = {state.clients.get(client).retries, state.clients.get(other).retries};
    int both = clashes(client, other) ? -2 : 2;
    int bits = 0;
    for (int a = 0; a < 2; a++) {
      for (int b = 0; b < 2; b++) {
        int[] has = outcome(a, b, both, retries);
        if (outcome(1 - a, b, both, retries)[0] <= has[0] && outcome(a, 1 - b, both, retries)[1] <= has[1]) bits |= 1 << (2 * a + b);
      }
    }
    return bits;
  }

  private static int[] outcome(int a, int b, int both, int[] retries) {
    if (a == 0 && b == 0) return new int[] {both, both};
    if (a == 1 && b == 1) return new int[] {0, 0};
    return a == 0 ? new int[] {3, -retries[1]} : new int[] {-retries[0], 3};
  }

  int odds(int n, int k) {
    if (n < 0 || n > 5 || k < 0 || k > 5) throw new IllegalArgumentException();
    int c = state.clients.size();
    if (c == 0) return k == 0 ? 10000 : 0;
    int all = 0, good = 0;
    for (int code = 0; code < Math.round(Math.pow(c, n)); code++) {
      int zeros = 0, rest = code;
      for (int i = 0; i < n; i++) { if (rest % c == 0) zeros++; rest /= c; }
      all++;
      if (zeros >= k) good++;
    }
    return good * 10000 / all;
  }

  int most(int what) {
    whatCheck(what, 2);
    int best = NONE, worth = NONE;
    for (int i = 0; i < state.clients.size(); i++) {
      Client c = state.clients.get(i);
      int w = new int[] {c.done, c.retries, c.uses().size()}[what];
      if (w > worth) { worth = w; best = i; }
    }
    return best;
  }

  int running() { return txBits(state.all(t -> t.running)); }
  int finished() { return txBits(state.all(t -> !t.running)); }

  int hot() {
    int best = 0;
    long most = 0;
    for (int k = 0; k < 10; k++) {
      int key = k;
      long users = state.clients.stream().filter(c -> c.uses().contains(key)).count();
      if (users > most) { most = users; best = k; }
    }
    return best;
  }

  int twins() {
    int pairs = 0;
    for (Client a : state.clients) for (Client b : state.clients) if (a != b && a.reads.equals(b.reads) && a.writes.equals(b.writes)) pairs++;
    return pairs / 2;
  }

  int trial(int n, boolean purse) {
    if (n < 0 || n > 60) throw new IllegalArgumentException();
    State s = state.copy();
    s.ticks(n);
    return purse ? s.purse : s.done();
  }

  int span(int n, boolean most) {
    if (n < 0 || n > 60) throw new IllegalArgumentException();
    TreeSet<Integer> found = new TreeSet<>();
    for (int seed = 1; seed <= 6; seed++) {
      State s = state.copy();
      s.seed = seed;
      s.ticks(n);
      found.add(s.done());
    }
    return most ? found.last() : found.first();
  }

  int led(int client, boolean stamp) {
    clientCheck(client);
    int rows = 0, latest = NONE;
    for (int[] r : state.log) if (r[1] == client && r[2] >= 1 && r[2] <= 3) { rows++; latest = r[0]; }
    return stamp ? latest : rows;
  }

  int log(int ago, int what) {
    whatCheck(what, 3);
    if (ago < 0 || ago >= state.log.size()) return NONE;
    return state.log.get(state.log.size() - 1 - ago)[what];
  }

  int seed(int n) { int was = state.seed; state.seed = n; return was; }

  boolean undo() {
    if (acts.isEmpty()) return false;
    state = acts.removeLast();
    return true;
  }

  void image() { imageState = state.copy(); imageLaw = law; }

  boolean back() {
    if (imageState == null) return false;
    state = imageState.copy();
    law = imageLaw;
    acts.clear();
    return true;
  }

  int count(int what) {
    int edges = 0, retries = 0;
    for (Tx t : state.all(t -> true)) edges += t.edges.size();
    for (Client c : state.clients) retries += c.retries;
    int[] all = {state.clients.size(), state.all(t -> t.running).size(), state.all(t -> !t.running).size(), state.texts,
        law == null ? NONE : law.size(), state.stamp, state.keep, state.purse, edges, state.history.size(), state.done(), retries,
        state.log.size(), acts.size()};
    return what < 0 || what >= all.length ? NONE : all[what];
  }
}
