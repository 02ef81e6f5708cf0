/** A SerialGate that is used for at most 512 calls, as the document allows; a test that needs more is wrong itself. */
final class Gate {
  static final int NONE = SerialGate.NONE;
  static final int MOST_CALLS = 512;

  private final SerialGate gate = new SerialGate();
  private int calls = 0;

  private SerialGate use() {
    calls++;
    if (calls > MOST_CALLS) throw new AssertionError("one object is used for more than 512 calls");
    return gate;
  }

  int feed(int a, int b, int c, int d, int e) { return use().feed(a, b, c, d, e); }
  boolean end(int n) { return use().end(n); }
  int store() { return use().store(); }
  int law() { return use().law(); }
  int fault() { return use().fault(); }
  int slot(int slot, int what) { return use().slot(slot, what); }
  int seen(int slot, int key) { return use().seen(slot, key); }
  int key(int key, int what) { return use().key(key, what); }
  int client(int client, int what) { return use().client(client, what); }
  int ticks(int n) { return use().ticks(n); }
  int begin(int client) { return use().begin(client); }
  int read(int slot, int key) { return use().read(slot, key); }
  boolean write(int slot, int key) { return use().write(slot, key); }
  int commit(int slot) { return use().commit(slot); }
  int abort(int slot) { return use().abort(slot); }
  int keep(int n) { return use().keep(n); }
  int dooms(int slot, int what, int key) { return use().dooms(slot, what, key); }
  int pivots() { return use().pivots(); }
  int cut() { return use().cut(); }
  int history(int row, int what) { return use().history(row, what); }
  int version(int row, int key, boolean wrote) { return use().version(row, key, wrote); }
  int serial(int k) { return use().serial(k); }
  boolean clash(int client, int other) { return use().clash(client, other); }
  int apart() { return use().apart(); }
  int rounds() { return use().rounds(); }
  int cover() { return use().cover(); }
  int who() { return use().who(); }
  int likely() { return use().likely(); }
  int ask() { return use().ask(); }
  int pairs(int client) { return use().pairs(client); }
  int rests(int client, int other) { return use().rests(client, other); }
  int odds(int n, int k) { return use().odds(n, k); }
  int most(int what) { return use().most(what); }
  int running() { return use().running(); }
  int finished() { return use().finished(); }
  int hot() { return use().hot(); }
  int twins() { return use().twins(); }
  int trial(int n, boolean purse) { return use().trial(n, purse); }
  int span(int n, boolean most) { return use().span(n, most); }
  int led(int client, boolean stamp) { return use().led(client, stamp); }
  int log(int ago, int what) { return use().log(ago, what); }
  int seed(int n) { return use().seed(n); }
  boolean undo() { return use().undo(); }
  void image() { use().image(); }
  boolean back() { return use().back(); }
  int count(int what) { return use().count(what); }
}
