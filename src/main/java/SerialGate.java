import java.util.NoSuchElementException;

/** Serializable snapshots, as the document of SerialGate promises them: the face, what is remembered, and the tape. */
public final class SerialGate {
    public static final int NONE = -1;

    private static final int KEYS = 10;
    private static final int SLOTS = 8;
    private static final int MOST_CLIENTS = 5;
    private static final int MOST_VERSION = 9999;
    private static final int MOST_PURSE = 9999;
    private static final int MOST_KEEP = 6;
    private static final int MOST_TEXTS = 12;
    private static final int MOST_TICKS = 60;
    private static final int MOST_ACTS = 12;
    private static final int MOST_ODDS = 5;
    private static final int LAST_SEED = 6;
    private static final int ROWS_TO_ASK = 20;
    private static final int MOST_WRONG = 1;

    private final Tape tape = new Tape();
    private final Law law = new Law();
    private final Law imageLaw = new Law();
    private final LawReader lawReader = new LawReader(tape);
    private final World world = new World(law);
    private final World spare = new World(law);
    private final World imageWorld = new World(law);
    private final StoreReader storeReader = new StoreReader(tape);
    private final Planner planner = new Planner(world.clients);
    private final World[] acts = new World[MOST_ACTS];
    private int nextAct = 0;
    private int actCount = 0;
    private boolean imageKept = false;
    private int fault = NONE;

    public SerialGate() {
        for (int i = 0; i < MOST_ACTS; i++) {
            acts[i] = new World(law);
        }
    }

    // ---- the tape and the texts ----

    public int feed(int a, int b, int c, int d, int e) {
        if (tape.length + 20 > Tape.MOST) {
            return NONE;
        }
        tape.append(a);
        tape.append(b);
        tape.append(c);
        tape.append(d);
        tape.append(e);
        return tape.length;
    }

    public boolean end(int n) {
        if (n < 0 || n > tape.length) {
            return false;
        }
        tape.length = n;
        return true;
    }

    public int store() throws IllegalArgumentException, UnsupportedOperationException {
        // The lines come into the spare world, so that nothing of a wrong text stays.
        spare.copyFrom(world);
        boolean right = storeReader.readsText(spare);
        endText(right);
        if (!right) {
            throw new IllegalArgumentException("the text is wrong");
        }
        if (world.texts >= MOST_TEXTS) {
            throw new UnsupportedOperationException("there are 12 texts");
        }
        world.copyFrom(spare);
        world.texts++;
        world.tidy();
        forgetActs();
        return world.texts;
    }

    public int law() throws IllegalArgumentException {
        boolean right = lawReader.readsText();
        endText(right);
        if (!right) {
            throw new IllegalArgumentException("the text is wrong");
        }
        law.copyFrom(lawReader.draft);
        forgetActs();
        return law.lines;
    }

    public int fault() {
        return fault;
    }

    private void endText(boolean right) {
        fault = right ? NONE : tape.at;
        tape.useUp();
    }

    // ---- what there is ----

    public int slot(int slot, int what) throws IndexOutOfBoundsException, NoSuchElementException {
        needSlot(slot);
        needWhat(what, 15);
        Slots s = world.slots;
        if (what == 0) {
            return s.isRunning(slot) ? 1 : s.isUsed(slot) ? 2 : 0;
        }
        if (!s.isUsed(slot)) {
            return NONE;
        }
        switch (what) {
            case 1: return s.client[slot];
            case 2: return s.began[slot];
            case 3: return s.ended[slot];
            case 4: return s.hasLooked[slot];
            case 5: return s.hasRead[slot];
            case 6: return s.hasWritten[slot];
            case 7: return s.from[slot];
            case 8: return s.to[slot];
            case 9: return s.firstOf(slot);
            case 10: return world.blameOf(slot);
            case 11: return world.payOf(slot);
            case 12: return s.outMin[slot];
            case 13: return s.inMax[slot];
            case 14: return s.isSafe(slot) ? 1 : 0;
            default: return s.isSpoilt(slot) ? 1 : 0;
        }
    }

    public int seen(int slot, int key) throws IndexOutOfBoundsException {
        needSlot(slot);
        needKey(key);
        return world.slots.isUsed(slot) ? world.slots.seen[slot * KEYS + key] : NONE;
    }

    public int key(int key, int what) throws IndexOutOfBoundsException, NoSuchElementException {
        needKey(key);
        needWhat(what, 4);
        switch (what) {
            case 0: return world.version[key];
            case 1: return world.lastRead[key];
            case 2: return world.lastWritten[key];
            case 3: return world.lastOut[key];
            default: return world.slots.writerOf(key);
        }
    }

    public int client(int client, int what) throws IndexOutOfBoundsException, NoSuchElementException {
        needClient(client);
        needWhat(what, 8);
        Clients c = world.clients;
        switch (what) {
            case 0: return c.reads[client];
            case 1: return c.writes[client];
            case 2: return c.isOnly(client) ? 1 : 0;
            case 3: return c.retries[client];
            case 4: return c.done[client];
            case 5: return world.slots.runningOf(client);
            case 6: return world.stepOf(client);
            case 7: return planner.roundOf(client);
            default: return c.shareOf(client);
        }
    }

    // ---- acts ----

    public int ticks(int n) throws IllegalArgumentException {
        if (n < 1 || n > MOST_TICKS) {
            throw new IllegalArgumentException("1 to 60 ticks");
        }
        remember();
        return world.run(n);
    }

    public int begin(int client) throws IndexOutOfBoundsException, IllegalStateException {
        needClient(client);
        if (world.slots.runningOf(client) != NONE || world.slots.leastFree() == NONE) {
            throw new IllegalStateException("it runs, or no slot is free");
        }
        remember();
        return world.start(client);
    }

    public int read(int slot, int key) throws IndexOutOfBoundsException, IllegalStateException {
        needSlot(slot);
        needKey(key);
        needRunning(slot);
        remember();
        world.lookAt(slot, key);
        Slots s = world.slots;
        if (!s.isRunning(slot)) {
            return NONE;
        }
        return s.seen[slot * KEYS + key] + (s.hasWritten[slot] >> key & 1);
    }

    public boolean write(int slot, int key) throws IndexOutOfBoundsException, IllegalStateException {
        needSlot(slot);
        needKey(key);
        needRunning(slot);
        if (world.slots.isOnly(slot) || world.slots.waitsFor(slot, key)) {
            throw new IllegalStateException("it only reads, or waits");
        }
        remember();
        world.put(slot, key);
        return world.slots.isRunning(slot);
    }

    public int commit(int slot) throws IndexOutOfBoundsException, IllegalStateException {
        needSlot(slot);
        needRunning(slot);
        remember();
        return world.finish(slot);
    }

    public int abort(int slot) throws IndexOutOfBoundsException, IllegalStateException {
        needSlot(slot);
        needRunning(slot);
        remember();
        int client = world.slots.client[slot];
        world.drop(slot, Log.BY_HAND);
        world.tidy();
        return client;
    }

    public int keep(int n) throws IllegalArgumentException {
        if (n < 0 || n > MOST_KEEP) {
            throw new IllegalArgumentException("0 to 6 are kept");
        }
        remember();
        int before = world.keep;
        world.keep = n;
        world.tidy();
        return before;
    }

    public int seed(int n) {
        int before = world.seed;
        world.seed = n;
        return before;
    }

    // ---- dangers ahead ----

    public int dooms(int slot, int what, int key)
            throws IndexOutOfBoundsException, IllegalArgumentException, IllegalStateException {
        needSlot(slot);
        if (what != 2) {
            needKey(key);
        }
        if (what < 0 || what > 2) {
            throw new IllegalArgumentException("0 read, 1 write, 2 commit");
        }
        needRunning(slot);
        Slots s = world.slots;
        if (what == 1 && (s.isOnly(slot) || s.waitsFor(slot, key))) {
            return 0;
        }
        spare.copyFrom(world);
        int endsWell = 0;
        if (what == 0) {
            spare.lookAt(slot, key);
        } else if (what == 1) {
            spare.put(slot, key);
        } else {
            spare.finish(slot);
            endsWell = 1 << slot;
        }
        return s.running & ~spare.slots.running & ~endsWell;
    }

    public int pivots() {
        int bits = 0;
        for (int i = 0; i < SLOTS; i++) {
            if (world.slots.isUsed(i) && world.slots.isPivot(i)) {
                bits |= 1 << i;
            }
        }
        return bits;
    }

    public int cut() {
        return world.slots.leastCut();
    }

    // ---- history and log ----

    public int history(int row, int what) throws NoSuchElementException {
        needWhat(what, 3);
        History h = world.history;
        if (row < 0 || row >= h.rows) {
            return NONE;
        }
        int place = h.placeOf(row);
        switch (what) {
            case 0: return h.client[place];
            case 1: return h.ended[place];
            case 2: return h.looked[place];
            default: return h.written[place];
        }
    }

    public int version(int row, int key, boolean wrote) throws IndexOutOfBoundsException {
        needKey(key);
        History h = world.history;
        if (row < 0 || row >= h.rows) {
            return NONE;
        }
        int place = h.placeOf(row);
        int told = wrote ? h.written[place] : h.looked[place];
        if ((told >> key & 1) == 0) {
            return NONE;
        }
        return wrote ? h.wrote[place * KEYS + key] : h.saw[place * KEYS + key];
    }

    public int serial(int k) {
        return world.history.serialRow(k);
    }

    public int led(int client, boolean stamp) throws IndexOutOfBoundsException {
        needClient(client);
        return stamp ? world.log.latestLed(client) : world.log.ledRows(client);
    }

    public int log(int ago, int what) throws NoSuchElementException {
        needWhat(what, 3);
        return world.log.tell(ago, what);
    }

    // ---- clients beside one another ----

    public boolean clash(int client, int other) throws IndexOutOfBoundsException, IllegalArgumentException {
        needTwo(client, other);
        return world.clients.areClashing(client, other);
    }

    public int apart() {
        return planner.mostApart();
    }

    public int rounds() {
        return planner.fewestRounds();
    }

    public int cover() {
        return planner.leastCover();
    }

    public int pairs(int client) throws IndexOutOfBoundsException {
        if (client != NONE) {
            needClient(client);
        }
        return planner.pairOf(client);
    }

    public int rests(int client, int other) throws IndexOutOfBoundsException, IllegalArgumentException {
        needTwo(client, other);
        return planner.restingChoices(client, other);
    }

    public int odds(int n, int k) throws IllegalArgumentException {
        if (n < 0 || n > MOST_ODDS || k < 0 || k > MOST_ODDS) {
            throw new IllegalArgumentException("0 to 5");
        }
        return planner.oddsOf(n, k);
    }

    public int most(int what) throws NoSuchElementException {
        needWhat(what, 2);
        Clients c = world.clients;
        int best = NONE;
        int bestWorth = NONE;
        for (int i = 0; i < c.count; i++) {
            int worth = what == 0 ? c.done[i] : what == 1 ? c.retries[i] : Integer.bitCount(c.usedBy(i));
            if (worth > bestWorth) {
                best = i;
                bestWorth = worth;
            }
        }
        return best;
    }

    public int hot() {
        return world.clients.hottestKey();
    }

    public int twins() {
        return world.clients.twinPairs();
    }

    // ---- which client it was ----

    public int who() throws IllegalArgumentException {
        boolean told = tape.tellsRows();
        int fitting = told ? fittingClients() : 0;
        tape.useUp();
        needTold(told);
        return fitting;
    }

    public int likely() throws IllegalArgumentException {
        boolean told = tape.tellsRows();
        int best = NONE;
        // Only those that fit can be likely.
        int fewest = MOST_WRONG + 1;
        for (int i = 0; told && i < world.clients.count; i++) {
            int wrong = wrongRows(i);
            if (wrong < fewest) {
                best = i;
                fewest = wrong;
            }
        }
        tape.useUp();
        needTold(told);
        return best;
    }

    public int ask() throws IllegalArgumentException {
        boolean told = tape.tellsRows();
        int fitting = told ? fittingClients() : 0;
        tape.useUp();
        needTold(told);
        int all = Integer.bitCount(fitting);
        int best = NONE;
        int least = all + 1;
        for (int row = 0; row < ROWS_TO_ASK && all >= 2; row++) {
            int doing = Integer.bitCount(fitting & world.clients.doersOf(row));
            int greater = Math.max(doing, all - doing);
            if (greater < least) {
                best = row;
                least = greater;
            }
        }
        return best;
    }

    private int fittingClients() {
        int bits = 0;
        for (int i = 0; i < world.clients.count; i++) {
            if (wrongRows(i) <= MOST_WRONG) {
                bits |= 1 << i;
            }
        }
        return bits;
    }

    private int wrongRows(int client) {
        int wrong = 0;
        for (int i = 0; i + 1 < tape.length; i += 2) {
            int does = world.clients.doersOf(tape.bytes[i]) >> client & 1;
            if (does != tape.bytes[i + 1]) {
                wrong++;
            }
        }
        return wrong;
    }

    // ---- counts and trials ----

    public int running() {
        return world.slots.running;
    }

    public int finished() {
        return world.slots.finished;
    }

    public int trial(int n, boolean purse) throws IllegalArgumentException {
        needTrial(n);
        spare.copyFrom(world);
        spare.run(n);
        return purse ? spare.purse : spare.clients.allDone();
    }

    public int span(int n, boolean most) throws IllegalArgumentException {
        needTrial(n);
        int least = 0;
        int greatest = 0;
        for (int from = 1; from <= LAST_SEED; from++) {
            spare.copyFrom(world);
            spare.seed = from;
            spare.run(n);
            int done = spare.clients.allDone();
            least = from == 1 ? done : Math.min(least, done);
            greatest = Math.max(greatest, done);
        }
        return most ? greatest : least;
    }

    public int count(int what) {
        switch (what) {
            case 0: return world.clients.count;
            case 1: return Integer.bitCount(world.slots.running);
            case 2: return Integer.bitCount(world.slots.finished);
            case 3: return world.texts;
            case 4: return law.lines;
            case 5: return world.stamp;
            case 6: return world.keep;
            case 7: return world.purse;
            case 8: return world.slots.edgeCount();
            case 9: return world.history.rows;
            case 10: return world.clients.allDone();
            case 11: return world.clients.allRetries();
            case 12: return world.log.rows;
            case 13: return actCount;
            default: return NONE;
        }
    }

    // ---- undone acts and the image ----

    public boolean undo() {
        if (actCount == 0) {
            return false;
        }
        nextAct = (nextAct + MOST_ACTS - 1) % MOST_ACTS;
        actCount--;
        world.copyFrom(acts[nextAct]);
        return true;
    }

    public void image() {
        imageWorld.copyFrom(world);
        imageLaw.copyFrom(law);
        imageKept = true;
    }

    public boolean back() {
        if (!imageKept) {
            return false;
        }
        world.copyFrom(imageWorld);
        law.copyFrom(imageLaw);
        forgetActs();
        return true;
    }

    private void remember() {
        acts[nextAct].copyFrom(world);
        nextAct = (nextAct + 1) % MOST_ACTS;
        actCount = Math.min(MOST_ACTS, actCount + 1);
    }

    private void forgetActs() {
        actCount = 0;
    }

    // ---- what calls need ----

    private static void needSlot(int slot) {
        if (slot < 0 || slot >= SLOTS) {
            throw new IndexOutOfBoundsException("no such slot");
        }
    }

    private static void needKey(int key) {
        if (key < 0 || key >= KEYS) {
            throw new IndexOutOfBoundsException("no such key");
        }
    }

    private void needClient(int client) {
        if (client < 0 || client >= world.clients.count) {
            throw new IndexOutOfBoundsException("no such client");
        }
    }

    private void needTwo(int client, int other) {
        needClient(client);
        needClient(other);
        if (client == other) {
            throw new IllegalArgumentException("both are one client");
        }
    }

    private void needRunning(int slot) {
        if (!world.slots.isRunning(slot)) {
            throw new IllegalStateException("the slot is not running");
        }
    }

    private static void needWhat(int what, int last) {
        if (what < 0 || what > last) {
            throw new NoSuchElementException("no such what");
        }
    }

    private static void needTold(boolean told) {
        if (!told) {
            throw new IllegalArgumentException("the tape does not tell rows");
        }
    }

    private static void needTrial(int n) {
        if (n < 0 || n > MOST_TICKS) {
            throw new IllegalArgumentException("0 to 60 ticks");
        }
    }

    /**
     * The bytes fed, with a place from which texts are read. Between two things read the place stands on no blank, so
     * that, where reading fails, it is the first wrong byte, or the text's length.
     */
    private static final class Tape {
        static final int MOST = 400;
        static final int MOST_TOLD = 40;
        static final int MOST_DIGITS = 3;

        final int[] bytes = new int[MOST];
        int length = 0;
        int at = 0;

        void append(int four) {
            for (int shift = 24; shift >= 0 && length < MOST; shift -= 8) {
                bytes[length] = four >>> shift & 255;
                length++;
            }
        }

        void useUp() {
            length = 0;
            at = 0;
        }

        void rewind() {
            at = 0;
            pass(0);
        }

        boolean hasEnded() {
            return at >= length;
        }

        /** Goes on behind so many bytes and the blanks that follow them. */
        private void pass(int size) {
            at += size;
            while (at < length && bytes[at] == ' ') {
                at++;
            }
        }

        private boolean isWithin(int place, char low, char high) {
            return place < length && bytes[place] >= low && bytes[place] <= high;
        }

        boolean takesSign(char sign) {
            if (!isWithin(at, sign, sign)) {
                return false;
            }
            pass(1);
            return true;
        }

        boolean takesWord(String word) {
            int size = word.length();
            for (int i = 0; i < size; i++) {
                if (at + i >= length || bytes[at + i] != word.charAt(i)) {
                    return false;
                }
            }
            if (isWithin(at + size, 'a', 'z')) {
                return false;
            }
            pass(size);
            return true;
        }

        boolean isAtNumber() {
            return isWithin(at, '0', '9');
        }

        /** The number that stands next, without taking it; NONE, if there is none from 0 to most. */
        int nextNumber(int most) {
            int value = 0;
            int digits = 0;
            while (digits <= MOST_DIGITS && isWithin(at + digits, '0', '9')) {
                value = value * 10 + bytes[at + digits] - '0';
                digits++;
            }
            return digits == 0 || digits > MOST_DIGITS || value > most ? NONE : value;
        }

        int takenNumber(int most) {
            int value = nextNumber(most);
            if (value == NONE) {
                return NONE;
            }
            int digits = 1;
            while (digits < MOST_DIGITS && isWithin(at + digits, '0', '9')) {
                digits++;
            }
            pass(digits);
            return value;
        }

        /** Whether all of it is rows to guess a client by, each with 1 or 0. */
        boolean tellsRows() {
            if (length > MOST_TOLD || length % 2 != 0) {
                return false;
            }
            for (int i = 0; i + 1 < length; i += 2) {
                if (bytes[i] >= ROWS_TO_ASK || bytes[i + 1] > 1) {
                    return false;
                }
            }
            return true;
        }
    }

    /** Reads texts of the store from the tape into a world. */
    private static final class StoreReader {
        private static final int MOST_LINES = 14;
        private static final int MOST_TOLD_KEYS = 10;
        private static final int MOST_NUMBER = 999;

        private final Tape tape;

        StoreReader(Tape tape) {
            this.tape = tape;
        }

        boolean readsText(World world) {
            tape.rewind();
            if (tape.hasEnded()) {
                return true;
            }
            for (int i = 0; i < MOST_LINES; i++) {
                if (!readsLine(world)) {
                    return false;
                }
                if (tape.hasEnded()) {
                    return true;
                }
                if (!tape.takesSign(';')) {
                    return false;
                }
            }
            return false;
        }

        private boolean readsLine(World world) {
            // A client too many is wrong at its first word, so that word is not taken then.
            if (world.clients.count < MOST_CLIENTS && tape.takesWord("client")) {
                return readsClient(world.clients);
            }
            if (tape.takesWord("version")) {
                return readsVersion(world);
            }
            if (tape.takesWord("keep")) {
                int n = tape.takenNumber(MOST_KEEP);
                world.keep = n == NONE ? world.keep : n;
                return n != NONE;
            }
            if (tape.takesWord("purse")) {
                int n = tape.takenNumber(MOST_NUMBER);
                world.purse = n == NONE ? world.purse : n;
                return n != NONE;
            }
            return false;
        }

        private boolean readsClient(Clients clients) {
            int reads = 0;
            int writes = 0;
            if (tape.takesWord("reads")) {
                reads = takenKeys();
            }
            if (reads != NONE && tape.takesWord("writes")) {
                writes = takenKeys();
            }
            if (reads == NONE || writes == NONE) {
                return false;
            }
            boolean only = writes == 0 && tape.takesWord("only");
            clients.add(reads, writes, only);
            return true;
        }

        private int takenKeys() {
            int keys = 0;
            for (int i = 0; i < MOST_TOLD_KEYS; i++) {
                int key = tape.takenNumber(KEYS - 1);
                if (key == NONE) {
                    return NONE;
                }
                keys |= 1 << key;
                if (!tape.isAtNumber()) {
                    return keys;
                }
            }
            return NONE;
        }

        private boolean readsVersion(World world) {
            int key = tape.nextNumber(KEYS - 1);
            if (key == NONE || world.slots.writerOf(key) != NONE) {
                return false;
            }
            tape.takenNumber(KEYS - 1);
            int more = tape.takenNumber(MOST_NUMBER);
            if (more == NONE) {
                return false;
            }
            world.version[key] = Math.min(MOST_VERSION, world.version[key] + more);
            return true;
        }
    }

    /**
     * The lines of blame, sparing and pay. The condition of each stands in code as a row of things to push and of signs
     * behind what they join.
     */
    private static final class Law {
        static final int MOST_LINES = 12;
        static final int BLAME = 0;
        static final int SPARE = 1;
        static final int PAY = 2;

        // What is told of a slot; the code of each is FACT and its number.
        static final int SLOT = 0;
        static final int CLIENT = 1;
        static final int AGE = 2;
        static final int READS = 3;
        static final int WRITES = 4;
        static final int RETRIES = 5;
        static final int STAMP = 6;
        static final int ONLY = 7;
        static final int PIVOT = 8;
        static final int RETRIED = 9;
        static final int FACTS = 10;

        // Codes below FACT are numbers.
        static final int FACT = 1000;
        static final int NOT = 2000;
        static final int AND = 2001;
        static final int OR = 2002;
        static final int PLUS = 2003;
        static final int LESS = 2004;
        static final int MORE = 2005;

        // Six brackets deep, each with an or, an and, a sum and a comparison open, stay well below it.
        private static final int MOST_OPEN = 40;

        int lines = NONE;
        int size = 0;
        final int[] kind = new int[MOST_LINES];
        final int[] worth = new int[MOST_LINES];
        final int[] codeEnd = new int[MOST_LINES];
        final int[] code = new int[Tape.MOST];
        final int[] facts = new int[FACTS];
        private final int[] stack = new int[MOST_OPEN];

        void copyFrom(Law other) {
            lines = other.lines;
            size = other.size;
            System.arraycopy(other.kind, 0, kind, 0, MOST_LINES);
            System.arraycopy(other.worth, 0, worth, 0, MOST_LINES);
            System.arraycopy(other.codeEnd, 0, codeEnd, 0, MOST_LINES);
            System.arraycopy(other.code, 0, code, 0, Tape.MOST);
        }

        void clear() {
            lines = 0;
            size = 0;
        }

        void add(int thing) {
            if (size < Tape.MOST) {
                code[size] = thing;
                size++;
            }
        }

        void endLine(int ofKind, int n) {
            if (lines >= 0 && lines < MOST_LINES) {
                kind[lines] = ofKind;
                worth[lines] = n;
                codeEnd[lines] = size;
                lines++;
            }
        }

        /** The sum of all lines of a kind that hold for the slot of which the facts are told. */
        int sumOf(int ofKind) {
            int sum = 0;
            for (int i = 0; i < lines; i++) {
                if (kind[i] == ofKind && holds(i)) {
                    sum += worth[i];
                }
            }
            return sum;
        }

        private boolean holds(int line) {
            int top = 0;
            for (int i = line == 0 ? 0 : codeEnd[line - 1]; i < codeEnd[line]; i++) {
                int thing = code[i];
                if (thing < FACT + FACTS && top < MOST_OPEN) {
                    stack[top] = thing < FACT ? thing : facts[thing - FACT];
                    top++;
                } else if (thing == NOT && top >= 1) {
                    stack[top - 1] = 1 - stack[top - 1];
                } else if (thing > NOT && top >= 2) {
                    top--;
                    int a = stack[top - 1];
                    int b = stack[top];
                    switch (thing) {
                        case AND: stack[top - 1] = a & b; break;
                        case OR: stack[top - 1] = a | b; break;
                        case PLUS: stack[top - 1] = a + b; break;
                        case LESS: stack[top - 1] = a < b ? 1 : 0; break;
                        default: stack[top - 1] = a > b ? 1 : 0; break;
                    }
                }
            }
            return top == 0 || stack[0] != 0;
        }
    }

    /** Reads the law from the tape into a draft. */
    private static final class LawReader {
        private static final int MOST_WORTH = 40;
        private static final int MOST_NUMBER = 999;
        private static final int MOST_DEEP = 6;
        private static final int OPEN = 3000;
        // At most six of ( and not, and between these at most an or and an and each.
        private static final int MOST_PENDING = 24;

        final Law draft = new Law();
        private final Tape tape;
        private final int[] pending = new int[MOST_PENDING];
        private int pendingCount = 0;
        private int deep = 0;

        LawReader(Tape tape) {
            this.tape = tape;
        }

        boolean readsText() {
            draft.clear();
            tape.rewind();
            if (tape.hasEnded()) {
                return true;
            }
            for (int i = 0; i < Law.MOST_LINES; i++) {
                int kind = takenKind();
                int worth = kind == NONE ? NONE : tape.takenNumber(MOST_WORTH);
                if (worth == NONE || tape.takesWord("if") && !readsCondition()) {
                    return false;
                }
                draft.endLine(kind, worth);
                if (tape.hasEnded()) {
                    return true;
                }
                if (!tape.takesSign(';')) {
                    return false;
                }
            }
            return false;
        }

        private int takenKind() {
            if (tape.takesWord("blame")) {
                return Law.BLAME;
            }
            if (tape.takesWord("spare")) {
                return Law.SPARE;
            }
            return tape.takesWord("pay") ? Law.PAY : NONE;
        }

        /** Signs wait in pending until what they join is in the code; brackets wait there for their ends. */
        private boolean readsCondition() {
            pendingCount = 0;
            deep = 0;
            boolean atomNext = true;
            for (int i = 0; i <= Tape.MOST; i++) {
                if (atomNext && deep < MOST_DEEP && tape.takesWord("not")) {
                    goDeeper(Law.NOT);
                } else if (atomNext && deep < MOST_DEEP && tape.takesSign('(')) {
                    goDeeper(OPEN);
                } else if (atomNext) {
                    if (!readsAtom()) {
                        return false;
                    }
                    endNots();
                    atomNext = false;
                } else if (tape.takesWord("and")) {
                    join(Law.AND, Law.AND);
                    atomNext = true;
                } else if (tape.takesWord("or")) {
                    join(Law.OR, Law.OR);
                    atomNext = true;
                } else if (deep > 0 && tape.takesSign(')')) {
                    join(Law.OR, NONE);
                    endBracket();
                } else {
                    join(Law.OR, NONE);
                    return deep == 0;
                }
            }
            return false;
        }

        private void goDeeper(int sign) {
            deep++;
            push(sign);
        }

        private void push(int sign) {
            if (pendingCount < MOST_PENDING) {
                pending[pendingCount] = sign;
                pendingCount++;
            }
        }

        private boolean isPending(int low, int high) {
            return pendingCount > 0 && pending[pendingCount - 1] >= low && pending[pendingCount - 1] <= high;
        }

        /** Ends the pending signs from AND up to loosest; then sign, if it is one, waits. */
        private void join(int loosest, int sign) {
            while (pendingCount > 0 && isPending(Law.AND, loosest)) {
                pendingCount--;
                draft.add(pending[pendingCount]);
            }
            if (sign != NONE) {
                push(sign);
            }
        }

        private void endNots() {
            while (pendingCount > 0 && isPending(Law.NOT, Law.NOT)) {
                pendingCount--;
                deep--;
                draft.add(Law.NOT);
            }
        }

        private void endBracket() {
            if (isPending(OPEN, OPEN)) {
                pendingCount--;
                deep--;
            }
            endNots();
        }

        private boolean readsAtom() {
            int word = takenFlag();
            if (word != NONE) {
                draft.add(Law.FACT + word);
                return true;
            }
            if (!readsSum()) {
                return false;
            }
            int sign = tape.takesSign('<') ? Law.LESS : tape.takesSign('>') ? Law.MORE : NONE;
            if (sign == NONE || !readsSum()) {
                return false;
            }
            draft.add(sign);
            return true;
        }

        private boolean readsSum() {
            for (int i = 0; i < Tape.MOST; i++) {
                int part = tape.takenNumber(MOST_NUMBER);
                if (part == NONE) {
                    part = takenFact();
                }
                if (part == NONE) {
                    return false;
                }
                draft.add(part);
                if (i > 0) {
                    draft.add(Law.PLUS);
                }
                if (!tape.takesSign('+')) {
                    return true;
                }
            }
            return false;
        }

        private int takenFlag() {
            if (tape.takesWord("only")) {
                return Law.ONLY;
            }
            if (tape.takesWord("pivot")) {
                return Law.PIVOT;
            }
            return tape.takesWord("retried") ? Law.RETRIED : NONE;
        }

        private int takenFact() {
            if (tape.takesWord("slot")) {
                return Law.FACT + Law.SLOT;
            }
            if (tape.takesWord("client")) {
                return Law.FACT + Law.CLIENT;
            }
            if (tape.takesWord("age")) {
                return Law.FACT + Law.AGE;
            }
            if (tape.takesWord("reads")) {
                return Law.FACT + Law.READS;
            }
            if (tape.takesWord("writes")) {
                return Law.FACT + Law.WRITES;
            }
            if (tape.takesWord("retries")) {
                return Law.FACT + Law.RETRIES;
            }
            return tape.takesWord("stamp") ? Law.FACT + Law.STAMP : NONE;
        }
    }

    /** All that undoing and the image bring back, and the rules by which it goes on. */
    private static final class World {
        private static final int USUAL_BLAME = 10;
        private static final int USUAL_PAY = 1;
        private static final int MOST_RETRIES = 99;
        private static final int STEP_READ = 100;
        private static final int STEP_WRITE = 200;
        private static final int STEP_COMMIT = 300;

        private final Law law;
        final Clients clients = new Clients();
        final Slots slots = new Slots();
        final History history = new History();
        final Log log = new Log();
        final int[] version = new int[KEYS];
        final int[] lastRead = new int[KEYS];
        final int[] lastWritten = new int[KEYS];
        final int[] lastOut = new int[KEYS];
        int stamp = 0;
        int keep = 3;
        int purse = 0;
        int seed = 1;
        int texts = 0;

        World(Law law) {
            this.law = law;
        }

        void copyFrom(World other) {
            clients.copyFrom(other.clients);
            slots.copyFrom(other.slots);
            history.copyFrom(other.history);
            log.copyFrom(other.log);
            System.arraycopy(other.version, 0, version, 0, KEYS);
            System.arraycopy(other.lastRead, 0, lastRead, 0, KEYS);
            System.arraycopy(other.lastWritten, 0, lastWritten, 0, KEYS);
            System.arraycopy(other.lastOut, 0, lastOut, 0, KEYS);
            stamp = other.stamp;
            keep = other.keep;
            purse = other.purse;
            seed = other.seed;
            texts = other.texts;
        }

        /** So many ticks: how many commits there were in these. */
        int run(int n) {
            int commits = 0;
            for (int i = 0; i < n && clients.count > 0; i++) {
                int client = draw() % clients.count;
                int slot = slots.runningOf(client);
                int step = stepOf(client);
                if (slot == NONE) {
                    start(client);
                } else if (step < STEP_WRITE) {
                    lookAt(slot, step - STEP_READ);
                } else if (step < STEP_COMMIT) {
                    put(slot, step - STEP_WRITE);
                } else {
                    finish(slot);
                    commits++;
                }
            }
            return commits;
        }

        private int draw() {
            seed = 1103515245 * seed + 12345;
            return seed >>> 16 & 32767;
        }

        /** 0 to begin, 100 and the key to read, 200 and the key to write, 300 to commit. */
        int stepOf(int client) {
            int slot = slots.runningOf(client);
            if (slot == NONE) {
                return 0;
            }
            int toRead = clients.reads[client] & ~slots.hasLooked[slot];
            if (toRead != 0) {
                return STEP_READ + Integer.numberOfTrailingZeros(toRead);
            }
            int toWrite = clients.writes[client] & ~slots.hasWritten[slot];
            return toWrite == 0 ? STEP_COMMIT : STEP_WRITE + Integer.numberOfTrailingZeros(toWrite);
        }

        /** BEGIN: the slot; NONE, if none is free. */
        int start(int client) {
            int slot = slots.leastFree();
            if (slot == NONE) {
                return NONE;
            }
            stamp++;
            slots.open(slot, client, clients.isOnly(client), stamp);
            System.arraycopy(version, 0, slots.seen, slot * KEYS, KEYS);
            return slot;
        }

        /** READ by a running slot. */
        void lookAt(int slot, int key) {
            int bit = 1 << key;
            slots.hasLooked[slot] |= bit;
            if ((slots.hasWritten[slot] & bit) != 0 || slots.isSafe(slot)) {
                return;
            }
            slots.hasRead[slot] |= bit;
            slots.linkToWriters(slot, bit);
            if (lastWritten[key] > slots.began[slot]) {
                slots.outMin[slot] = slots.began[slot] + 1;
                boolean late = !slots.isOnly(slot) || lastOut[key] < slots.began[slot];
                if (lastOut[key] > 0 && late) {
                    drop(slot, Log.BY_READING);
                }
            }
            settle();
        }

        /** WRITE by a running slot that is not only; nothing comes of it, if it waits. */
        void put(int slot, int key) {
            if (slots.waitsFor(slot, key)) {
                return;
            }
            if (version[key] != slots.seen[slot * KEYS + key]) {
                drop(slot, Log.BY_WRITING);
            } else {
                slots.hasWritten[slot] |= 1 << key;
                slots.linkFromReaders(slot, 1 << key);
                if (lastRead[key] > slots.began[slot]) {
                    slots.inMax[slot] = Math.max(slots.inMax[slot], lastRead[key]);
                }
            }
            settle();
        }

        /** COMMIT of a running slot: its end. */
        int finish(int slot) {
            int pay = payOf(slot);
            stamp++;
            int end = stamp;
            slots.close(slot, end);
            for (int key = 0; key < KEYS; key++) {
                int more = slots.hasWritten[slot] >> key & 1;
                version[key] = Math.min(MOST_VERSION, version[key] + more);
            }
            int client = slots.client[slot];
            clients.done[client]++;
            clients.retries[client] = 0;
            purse = Math.min(MOST_PURSE, purse + pay);
            history.add(slots, slot, version);
            log.add(stamp, client, Log.COMMIT, slot);
            slots.spoilReaders(slot);
            settle();
            return end;
        }

        /** ABORTED, by the reason given. */
        void drop(int slot, int why) {
            int client = slots.client[slot];
            log.add(stamp, client, why, slot);
            clients.retries[client] = Math.min(MOST_RETRIES, clients.retries[client] + 1);
            slots.free(slot);
        }

        /** Dangers are met, then it is tidied. Each danger frees a slot, so there are no more of them than slots. */
        private void settle() {
            for (int i = 0; i < SLOTS; i++) {
                int pivot = slots.leastInDanger();
                if (pivot == NONE) {
                    break;
                }
                drop(victim(slots.aheadOf(pivot), pivot), Log.BY_DANGER);
            }
            tidy();
        }

        private int victim(int ahead, int pivot) {
            if (ahead < 0 || !slots.isRunning(ahead)) {
                return pivot;
            }
            if (!slots.isRunning(pivot)) {
                return ahead;
            }
            return blameOf(ahead) > blameOf(pivot) ? ahead : pivot;
        }

        int blameOf(int slot) {
            tellLaw(slot);
            return Math.max(0, USUAL_BLAME + law.sumOf(Law.BLAME) - law.sumOf(Law.SPARE));
        }

        int payOf(int slot) {
            tellLaw(slot);
            return USUAL_PAY + law.sumOf(Law.PAY);
        }

        private void tellLaw(int slot) {
            int client = slots.client[slot];
            law.facts[Law.SLOT] = slot;
            law.facts[Law.CLIENT] = client;
            law.facts[Law.AGE] = stamp - slots.began[slot];
            law.facts[Law.READS] = Integer.bitCount(slots.hasRead[slot]);
            law.facts[Law.WRITES] = Integer.bitCount(slots.hasWritten[slot]);
            law.facts[Law.RETRIES] = clients.retries[client];
            law.facts[Law.STAMP] = stamp % 100;
            law.facts[Law.ONLY] = slots.isOnly(slot) ? 1 : 0;
            law.facts[Law.PIVOT] = slots.isPivot(slot) ? 1 : 0;
            law.facts[Law.RETRIED] = clients.retries[client] > 0 ? 1 : 0;
        }

        void tidy() {
            int bound = slots.leastBegan();
            for (int i = 0; i < SLOTS; i++) {
                int oldest = slots.oldestFinished();
                if (oldest == NONE || slots.ended[oldest] >= bound) {
                    break;
                }
                log.add(stamp, slots.client[oldest], Log.FORGOTTEN, oldest);
                slots.leave(oldest);
            }
            for (int i = 0; i < SLOTS && Integer.bitCount(slots.finished) > keep; i++) {
                int oldest = slots.oldestFinished();
                if (oldest == NONE) {
                    break;
                }
                summarise(oldest);
                log.add(stamp, slots.client[oldest], Log.SUMMARISED, oldest);
                slots.leave(oldest);
            }
        }

        private void summarise(int slot) {
            int end = slots.ended[slot];
            int first = slots.firstOf(slot);
            boolean out = first > 0 && first < end;
            for (int key = 0; key < KEYS; key++) {
                if ((slots.hasRead[slot] >> key & 1) != 0) {
                    lastRead[key] = Math.max(lastRead[key], end);
                }
                if ((slots.hasWritten[slot] >> key & 1) != 0) {
                    lastWritten[key] = Math.max(lastWritten[key], end);
                    if (out && (lastOut[key] == 0 || lastOut[key] > first)) {
                        lastOut[key] = first;
                    }
                }
            }
        }
    }

    /** The slots; sets of slots and of keys are bits. */
    private static final class Slots {
        static final int NO_DANGER = -2;
        // When none runs, each end is below this.
        private static final int AFTER_ALL = 0x7fffffff;

        int running = 0;
        int finished = 0;
        int only = 0;
        int spoilt = 0;
        final int[] client = new int[SLOTS];
        final int[] began = new int[SLOTS];
        final int[] ended = new int[SLOTS];
        final int[] hasLooked = new int[SLOTS];
        final int[] hasRead = new int[SLOTS];
        final int[] hasWritten = new int[SLOTS];
        final int[] outMin = new int[SLOTS];
        final int[] inMax = new int[SLOTS];
        final int[] from = new int[SLOTS];
        final int[] to = new int[SLOTS];
        final int[] seen = new int[SLOTS * KEYS];

        void copyFrom(Slots other) {
            running = other.running;
            finished = other.finished;
            only = other.only;
            spoilt = other.spoilt;
            System.arraycopy(other.client, 0, client, 0, SLOTS);
            System.arraycopy(other.began, 0, began, 0, SLOTS);
            System.arraycopy(other.ended, 0, ended, 0, SLOTS);
            System.arraycopy(other.hasLooked, 0, hasLooked, 0, SLOTS);
            System.arraycopy(other.hasRead, 0, hasRead, 0, SLOTS);
            System.arraycopy(other.hasWritten, 0, hasWritten, 0, SLOTS);
            System.arraycopy(other.outMin, 0, outMin, 0, SLOTS);
            System.arraycopy(other.inMax, 0, inMax, 0, SLOTS);
            System.arraycopy(other.from, 0, from, 0, SLOTS);
            System.arraycopy(other.to, 0, to, 0, SLOTS);
            System.arraycopy(other.seen, 0, seen, 0, SLOTS * KEYS);
        }

        boolean isRunning(int slot) {
            return (running >> slot & 1) != 0;
        }

        boolean isUsed(int slot) {
            return ((running | finished) >> slot & 1) != 0;
        }

        boolean isOnly(int slot) {
            return (only >> slot & 1) != 0;
        }

        boolean isSpoilt(int slot) {
            return (spoilt >> slot & 1) != 0;
        }

        boolean isSafe(int slot) {
            if ((running & only & ~spoilt & 1 << slot) == 0) {
                return false;
            }
            int writers = running & ~only;
            for (int i = 0; i < SLOTS; i++) {
                if ((writers >> i & 1) != 0 && began[i] < began[slot]) {
                    return false;
                }
            }
            return true;
        }

        boolean isPivot(int slot) {
            return (to[slot] != 0 || inMax[slot] > 0) && (from[slot] != 0 || outMin[slot] > 0);
        }

        int leastFree() {
            for (int i = 0; i < SLOTS; i++) {
                if (!isUsed(i)) {
                    return i;
                }
            }
            return NONE;
        }

        int runningOf(int ofClient) {
            for (int i = 0; i < SLOTS; i++) {
                if ((running >> i & 1) != 0 && client[i] == ofClient) {
                    return i;
                }
            }
            return NONE;
        }

        int writerOf(int key) {
            for (int i = 0; i < SLOTS; i++) {
                if ((running >> i & 1) != 0 && (hasWritten[i] >> key & 1) != 0) {
                    return i;
                }
            }
            return NONE;
        }

        boolean waitsFor(int slot, int key) {
            int writer = writerOf(key);
            return writer != NONE && writer != slot;
        }

        int leastBegan() {
            int least = AFTER_ALL;
            for (int i = 0; i < SLOTS; i++) {
                if ((running >> i & 1) != 0 && began[i] < least) {
                    least = began[i];
                }
            }
            return least;
        }

        int oldestFinished() {
            int oldest = NONE;
            for (int i = 0; i < SLOTS; i++) {
                if ((finished >> i & 1) != 0 && (oldest == NONE || ended[i] < ended[oldest])) {
                    oldest = i;
                }
            }
            return oldest;
        }

        /** FIRST: the least end of those finished to which it has an edge, and OUTMIN; 0 without. */
        int firstOf(int slot) {
            int least = outMin[slot];
            int ends = from[slot] & finished;
            for (int i = 0; i < SLOTS && ends != 0; i++) {
                if ((ends >> i & 1) != 0 && (least == 0 || ended[i] < least)) {
                    least = ended[i];
                }
            }
            return least;
        }

        int edgeCount() {
            int edges = 0;
            for (int i = 0; i < SLOTS; i++) {
                edges += Integer.bitCount(from[i]);
            }
            return edges;
        }

        void open(int slot, int ofClient, boolean onlyReads, int stamp) {
            running |= 1 << slot;
            if (onlyReads) {
                only |= 1 << slot;
            }
            client[slot] = ofClient;
            began[slot] = stamp;
            ended[slot] = 0;
            hasLooked[slot] = 0;
            hasRead[slot] = 0;
            hasWritten[slot] = 0;
            outMin[slot] = 0;
            inMax[slot] = 0;
        }

        void close(int slot, int stamp) {
            running &= ~(1 << slot);
            finished |= 1 << slot;
            ended[slot] = stamp;
        }

        void free(int slot) {
            int others = ~(1 << slot);
            running &= others;
            finished &= others;
            only &= others;
            spoilt &= others;
            for (int i = 0; i < SLOTS; i++) {
                from[i] &= others;
                to[i] &= others;
            }
            from[slot] = 0;
            to[slot] = 0;
        }

        /** LEAVE: what its edges told stays in OUTMIN and INMAX of the others. */
        void leave(int slot) {
            int end = ended[slot];
            for (int i = 0; i < SLOTS; i++) {
                if ((to[slot] >> i & 1) != 0 && (outMin[i] == 0 || outMin[i] > end)) {
                    outMin[i] = end;
                }
                if ((from[slot] >> i & 1) != 0) {
                    inMax[i] = Math.max(inMax[i], end);
                }
            }
            free(slot);
        }

        private boolean isConcurrent(int other, int slot) {
            return other != slot && ((running >> other & 1) != 0
                    || (finished >> other & 1) != 0 && ended[other] > began[slot]);
        }

        void linkToWriters(int slot, int keyBit) {
            for (int i = 0; i < SLOTS; i++) {
                if ((hasWritten[i] & keyBit) != 0 && isConcurrent(i, slot)) {
                    from[slot] |= 1 << i;
                    to[i] |= 1 << slot;
                }
            }
        }

        void linkFromReaders(int slot, int keyBit) {
            for (int i = 0; i < SLOTS; i++) {
                if ((hasRead[i] & keyBit) != 0 && isConcurrent(i, slot)) {
                    from[i] |= 1 << slot;
                    to[slot] |= 1 << i;
                }
            }
        }

        /** Spoils the snapshots that only read and began behind the first of a writer that has just committed. */
        void spoilReaders(int slot) {
            int first = firstOf(slot);
            if ((only >> slot & 1) != 0 || first == 0) {
                return;
            }
            int readers = running & only;
            for (int i = 0; i < SLOTS; i++) {
                if ((readers >> i & 1) != 0 && began[i] > first && began[i] > began[slot]) {
                    spoilt |= 1 << i;
                }
            }
        }

        int leastInDanger() {
            for (int i = 0; i < SLOTS; i++) {
                if (isUsed(i) && aheadOf(i) != NO_DANGER) {
                    return i;
                }
            }
            return NONE;
        }

        /** Who is ahead of a pivot in its next danger: NONE, if none needs to be; NO_DANGER, if there is no danger. */
        int aheadOf(int pivot) {
            int first = firstOf(pivot);
            boolean runs = isRunning(pivot);
            if (first == 0 || !runs && first >= ended[pivot]) {
                return NO_DANGER;
            }
            if (runs && inMax[pivot] > 0 && first <= inMax[pivot]) {
                return NONE;
            }
            int able = runs ? to[pivot] : to[pivot] & running;
            for (int i = 0; i < SLOTS; i++) {
                if ((able >> i & 1) != 0 && isEndangered(i, first)) {
                    return i;
                }
            }
            return NO_DANGER;
        }

        private boolean isEndangered(int ahead, int first) {
            if ((finished >> ahead & 1) != 0 && first > ended[ahead]) {
                return false;
            }
            return (only >> ahead & 1) == 0 || first < began[ahead];
        }

        /** CUT: the fewest running slots without which no running one has both an edge to it and one from it. */
        int leastCut() {
            int best = running;
            for (int set = 0; set < 1 << SLOTS; set++) {
                if ((set & ~running) == 0 && Integer.bitCount(set) < Integer.bitCount(best) && isCut(set)) {
                    best = set;
                }
            }
            return best;
        }

        private boolean isCut(int set) {
            for (int i = 0; i < SLOTS; i++) {
                boolean left = ((running & ~set) >> i & 1) != 0;
                if (left && (from[i] & ~set) != 0 && (to[i] & ~set) != 0) {
                    return false;
                }
            }
            return true;
        }
    }

    /** The clients: their programs, and how they have fared. */
    private static final class Clients {
        int count = 0;
        private int only = 0;
        final int[] reads = new int[MOST_CLIENTS];
        final int[] writes = new int[MOST_CLIENTS];
        final int[] retries = new int[MOST_CLIENTS];
        final int[] done = new int[MOST_CLIENTS];

        void copyFrom(Clients other) {
            count = other.count;
            only = other.only;
            System.arraycopy(other.reads, 0, reads, 0, MOST_CLIENTS);
            System.arraycopy(other.writes, 0, writes, 0, MOST_CLIENTS);
            System.arraycopy(other.retries, 0, retries, 0, MOST_CLIENTS);
            System.arraycopy(other.done, 0, done, 0, MOST_CLIENTS);
        }

        void add(int readKeys, int writtenKeys, boolean onlyReads) {
            if (count >= MOST_CLIENTS) {
                return;
            }
            reads[count] = readKeys;
            writes[count] = writtenKeys;
            if (onlyReads) {
                only |= 1 << count;
            }
            count++;
        }

        boolean isOnly(int client) {
            return (only >> client & 1) != 0;
        }

        int usedBy(int client) {
            return reads[client] | writes[client];
        }

        boolean areClashing(int client, int other) {
            return (writes[client] & usedBy(other)) != 0 || (writes[other] & usedBy(client)) != 0;
        }

        /** The clients, as bits, that do what a row tells: 10 times 0 (reads) or 1 (writes), and a key. */
        int doersOf(int row) {
            int bits = 0;
            for (int i = 0; i < count; i++) {
                int does = row < KEYS ? reads[i] >> row & 1 : writes[i] >> row - KEYS & 1;
                bits |= does << i;
            }
            return bits;
        }

        int allDone() {
            int sum = 0;
            for (int i = 0; i < count; i++) {
                sum += done[i];
            }
            return sum;
        }

        int allRetries() {
            int sum = 0;
            for (int i = 0; i < count; i++) {
                sum += retries[i];
            }
            return sum;
        }

        int shareOf(int client) {
            int all = allDone();
            return all == 0 ? 0 : 100 * done[client] / all;
        }

        int hottestKey() {
            int best = 0;
            int most = 0;
            for (int key = 0; key < KEYS; key++) {
                int users = 0;
                for (int i = 0; i < count; i++) {
                    users += usedBy(i) >> key & 1;
                }
                if (users > most) {
                    best = key;
                    most = users;
                }
            }
            return best;
        }

        int twinPairs() {
            int pairs = 0;
            for (int i = 0; i < count; i++) {
                for (int j = 0; j < i; j++) {
                    if (reads[i] == reads[j] && writes[i] == writes[j]) {
                        pairs++;
                    }
                }
            }
            return pairs;
        }
    }

    /** The latest commits, with what they saw and wrote; a place goes round, row 0 is the oldest. */
    private static final class History {
        private static final int MOST = 12;

        int rows = 0;
        private int oldest = 0;
        final int[] client = new int[MOST];
        final int[] ended = new int[MOST];
        final int[] looked = new int[MOST];
        final int[] written = new int[MOST];
        final int[] saw = new int[MOST * KEYS];
        final int[] wrote = new int[MOST * KEYS];
        private final int[] aheadOfRow = new int[MOST];

        void copyFrom(History other) {
            rows = other.rows;
            oldest = other.oldest;
            System.arraycopy(other.client, 0, client, 0, MOST);
            System.arraycopy(other.ended, 0, ended, 0, MOST);
            System.arraycopy(other.looked, 0, looked, 0, MOST);
            System.arraycopy(other.written, 0, written, 0, MOST);
            System.arraycopy(other.saw, 0, saw, 0, MOST * KEYS);
            System.arraycopy(other.wrote, 0, wrote, 0, MOST * KEYS);
        }

        int placeOf(int row) {
            return (oldest + row) % MOST;
        }

        void add(Slots slots, int slot, int[] version) {
            int place = placeOf(rows);
            if (rows < MOST) {
                rows++;
            } else {
                oldest = placeOf(1);
            }
            client[place] = slots.client[slot];
            ended[place] = slots.ended[slot];
            looked[place] = slots.hasLooked[slot];
            written[place] = slots.hasWritten[slot];
            System.arraycopy(slots.seen, slot * KEYS, saw, place * KEYS, KEYS);
            System.arraycopy(version, 0, wrote, place * KEYS, KEYS);
        }

        /** SERIAL of k: each time the oldest row goes next ahead of which none of those left must be. */
        int serialRow(int k) {
            if (k < 0 || k >= rows) {
                return NONE;
            }
            findAhead();
            int left = (1 << rows) - 1;
            for (int i = 0; i <= k; i++) {
                int row = nextRow(left);
                if (row == NONE || i == k) {
                    return row;
                }
                left &= ~(1 << row);
            }
            return NONE;
        }

        private int nextRow(int left) {
            for (int row = 0; row < rows; row++) {
                if ((left >> row & 1) != 0 && (aheadOfRow[row] & left) == 0) {
                    return row;
                }
            }
            return NONE;
        }

        private void findAhead() {
            for (int row = 0; row < rows; row++) {
                aheadOfRow[row] = 0;
                for (int other = 0; other < rows; other++) {
                    if (other != row && mustBeAhead(placeOf(other), placeOf(row))) {
                        aheadOfRow[row] |= 1 << other;
                    }
                }
            }
        }

        private boolean mustBeAhead(int a, int b) {
            for (int key = 0; key < KEYS; key++) {
                boolean aWrote = (written[a] >> key & 1) != 0;
                boolean bWrote = (written[b] >> key & 1) != 0;
                boolean aSaw = (looked[a] >> key & 1) != 0;
                boolean bSaw = (looked[b] >> key & 1) != 0;
                int i = a * KEYS + key;
                int j = b * KEYS + key;
                if (aWrote && bSaw && wrote[i] <= saw[j] || aSaw && bWrote && saw[i] < wrote[j]
                        || aWrote && bWrote && wrote[i] < wrote[j]) {
                    return true;
                }
            }
            return false;
        }
    }

    /** The latest commits, aborts and leavings; a place goes round. */
    private static final class Log {
        static final int COMMIT = 0;
        static final int BY_READING = 1;
        static final int BY_WRITING = 2;
        static final int BY_DANGER = 3;
        static final int BY_HAND = 4;
        static final int SUMMARISED = 5;
        static final int FORGOTTEN = 6;
        private static final int MOST = 60;
        private static final int WIDTH = 4;

        int rows = 0;
        private int next = 0;
        private final int[] cells = new int[MOST * WIDTH];

        void copyFrom(Log other) {
            rows = other.rows;
            next = other.next;
            System.arraycopy(other.cells, 0, cells, 0, MOST * WIDTH);
        }

        void add(int stamp, int client, int kind, int slot) {
            cells[next * WIDTH] = stamp;
            cells[next * WIDTH + 1] = client;
            cells[next * WIDTH + 2] = kind;
            cells[next * WIDTH + 3] = slot;
            next = (next + 1) % MOST;
            rows = Math.min(MOST, rows + 1);
        }

        int tell(int ago, int what) {
            if (ago < 0 || ago >= rows) {
                return NONE;
            }
            return cells[(next - 1 - ago + MOST) % MOST * WIDTH + what];
        }

        private boolean isLed(int ago, int client) {
            int kind = tell(ago, 2);
            return tell(ago, 1) == client && kind >= BY_READING && kind <= BY_DANGER;
        }

        int ledRows(int client) {
            int led = 0;
            for (int ago = 0; ago < rows; ago++) {
                if (isLed(ago, client)) {
                    led++;
                }
            }
            return led;
        }

        int latestLed(int client) {
            for (int ago = 0; ago < rows; ago++) {
                if (isLed(ago, client)) {
                    return tell(ago, 0);
                }
            }
            return NONE;
        }
    }

    /** What can be told of the clients by their programs alone (and their retries). */
    private static final class Planner {
        private static final int WHOLE = 10000;

        private final Clients clients;
        private final int[] round = new int[MOST_CLIENTS];
        private final int[] partner = new int[MOST_CLIENTS];
        private final int[] bestPartner = new int[MOST_CLIENTS];
        private int bestUses = 0;

        Planner(Clients clients) {
            this.clients = clients;
        }

        int mostApart() {
            int best = 0;
            for (int set = 1; set < 1 << clients.count; set++) {
                if (Integer.bitCount(set) > Integer.bitCount(best) && areApart(set)) {
                    best = set;
                }
            }
            return best;
        }

        private boolean areApart(int set) {
            for (int i = 0; i < clients.count; i++) {
                for (int j = 0; j < i; j++) {
                    if ((set >> i & 1) != 0 && (set >> j & 1) != 0 && clients.areClashing(i, j)) {
                        return false;
                    }
                }
            }
            return true;
        }

        int fewestRounds() {
            for (int limit = 0; limit < clients.count; limit++) {
                if (placesFrom(this, 0, 0, limit)) {
                    return limit;
                }
            }
            // Each in a round of its own always goes.
            placesFrom(this, 0, 0, clients.count);
            return clients.count;
        }

        int roundOf(int client) {
            fewestRounds();
            return round[client];
        }

        /** Whether the clients from one on can be placed, so many rounds being used, in the first way that goes. */
        private static boolean placesFrom(Planner plan, int client, int used, int limit) {
            if (client >= plan.clients.count) {
                return true;
            }
            for (int i = 0; i <= used && i < limit; i++) {
                if (plan.fitsRound(client, i)) {
                    plan.round[client] = i;
                    if (placesFrom(plan, client + 1, i == used ? used + 1 : used, limit)) {
                        return true;
                    }
                }
            }
            return false;
        }

        private boolean fitsRound(int client, int inRound) {
            for (int i = 0; i < client; i++) {
                if (round[i] == inRound && clients.areClashing(i, client)) {
                    return false;
                }
            }
            return true;
        }

        int leastCover() {
            int best = (1 << KEYS) - 1;
            for (int set = 0; set < 1 << KEYS; set++) {
                if (Integer.bitCount(set) < Integer.bitCount(best) && coversAll(set)) {
                    best = set;
                }
            }
            return best;
        }

        private boolean coversAll(int set) {
            for (int i = 0; i < clients.count; i++) {
                int used = clients.usedBy(i);
                if (used != 0 && (used & set) == 0) {
                    return false;
                }
            }
            return true;
        }

        /** How many keys the paired ones use (client NONE), or with whom a client is. */
        int pairOf(int client) {
            for (int i = 0; i < MOST_CLIENTS; i++) {
                partner[i] = NONE;
            }
            bestUses = NONE;
            pairFrom(this, 0, 0);
            return client < 0 || client >= MOST_CLIENTS ? bestUses : bestPartner[client];
        }

        /** Tries all ways for the clients from one on, first ways first, so that the first of the best is kept. */
        private static void pairFrom(Planner plan, int client, int uses) {
            Clients clients = plan.clients;
            int[] partner = plan.partner;
            if (client >= clients.count) {
                if (uses > plan.bestUses) {
                    plan.bestUses = uses;
                    System.arraycopy(partner, 0, plan.bestPartner, 0, MOST_CLIENTS);
                }
                return;
            }
            pairFrom(plan, client + 1, uses);
            for (int other = client + 1; partner[client] == NONE && other < clients.count; other++) {
                if (partner[other] == NONE && !clients.areClashing(client, other)) {
                    partner[client] = other;
                    partner[other] = client;
                    int more = Integer.bitCount(clients.usedBy(client)) + Integer.bitCount(clients.usedBy(other));
                    pairFrom(plan, client + 1, uses + more);
                    partner[client] = NONE;
                    partner[other] = NONE;
                }
            }
        }

        int restingChoices(int client, int other) {
            int both = clients.areClashing(client, other) ? -2 : 2;
            int bits = 0;
            for (int mine = 0; mine < 2; mine++) {
                for (int its = 0; its < 2; its++) {
                    int has = hasBy(mine, its, both, clients.retries[client]);
                    int itHas = hasBy(its, mine, both, clients.retries[other]);
                    if (has >= hasBy(1 - mine, its, both, clients.retries[client])
                            && itHas >= hasBy(1 - its, mine, both, clients.retries[other])) {
                        bits |= 1 << 2 * mine + its;
                    }
                }
            }
            return bits;
        }

        private static int hasBy(int own, int its, int both, int retries) {
            if (own == its) {
                return own == 0 ? both : 0;
            }
            return own == 0 ? 3 : -retries;
        }

        int oddsOf(int n, int k) {
            int all = 1;
            int good = 0;
            if (clients.count == 0) {
                return k == 0 ? WHOLE : 0;
            }
            for (int i = 0; i < n; i++) {
                all *= clients.count;
            }
            for (int steps = k; steps <= n; steps++) {
                int ways = 1;
                for (int i = 0; i < steps; i++) {
                    ways = ways * (n - i) / (i + 1);
                }
                for (int i = steps; i < n; i++) {
                    ways *= clients.count - 1;
                }
                good += ways;
            }
            return all <= 0 ? 0 : good * WHOLE / all;
        }
    }
}
