import java.util.Arrays;

/** Four replicas of a nested map that exchange deltas over a lossy net; ../shared/DOC.md says what each call answers. */
public final class DeltaNests {
    public static final int NONE = -1;

    private static final int OTHER = -2;
    private static final int REPLICAS = 4;
    private static final int KEYS = 4;
    private static final int FIELDS = 3;
    private static final int VALUES = 100;
    private static final int NUMBERS = 63;
    private static final int DOTS_EACH = NUMBERS + 1;
    private static final int TAPE = 300;
    private static final int TEXTS = 4;
    private static final int CLAUSES = 24;
    private static final int NESTED = 8;
    private static final int TICKS = 12;
    private static final int LAST_CLOCK = 9999;
    private static final int KEPT_DELTAS = 6;
    private static final int FLIGHTS = 24;
    private static final int LINES = 25;
    private static final int KEPT_STEPS = 30;
    private static final int SAYINGS = 8;
    private static final int TILL_AT_MOST = 60;

    // Rows of Nests: the four STATES first, so that a REPLICA's number is its row.
    private static final int DELTA_ROWS = REPLICAS;
    private static final int FLIGHT_ROWS = DELTA_ROWS + REPLICAS * KEPT_DELTAS;
    private static final int SENDING = FLIGHT_ROWS + FLIGHTS;
    private static final int ARRIVED = SENDING + 1;
    private static final int JOINED = ARRIVED + 1;
    private static final int ROWS = JOINED + 1;

    // What the BOOK's lines tell.
    private static final int WAS_SET = 0;
    private static final int WAS_CLEARED = 1;
    private static final int WAS_RESET = 2;
    private static final int WAS_LOST = 3;
    private static final int CAME = 4;
    private static final int KINDS = 5;

    // Numbers of the words, as they stand in WORDS; the laws and the acts come first, the names last.
    private static final String WORDS =
        "loses speaks set clear reset send day of at to if then else end or and not has known clock sender other answer bulk behind ";
    private static final int LOSES = 0;
    private static final int SPEAKS = 1;
    private static final int SET = 2;
    private static final int CLEAR = 3;
    private static final int RESET = 4;
    private static final int SEND = 5;
    private static final int DAY = 6;
    private static final int OF = 7;
    private static final int AT = 8;
    private static final int TO = 9;
    private static final int IF = 10;
    private static final int THEN = 11;
    private static final int ELSE = 12;
    private static final int END_WORD = 13;
    private static final int OR = 14;
    private static final int AND = 15;
    private static final int NOT = 16;
    private static final int HAS = 17;
    private static final int KNOWN = 18;
    private static final int CLOCK = 19;
    private static final int OTHER_NAME = 21;
    private static final int BEHIND = 24;

    // Numbers of the signs, as they stand in SIGNS from FIRST_SIGN on; those of two bytes follow.
    private static final String SIGNS = "<>=#+-*/();";
    private static final int FIRST_SIGN = 25;
    private static final int LESS = 25;
    private static final int MORE = 26;
    private static final int LIKE = 27;
    private static final int UNLIKE = 28;
    private static final int PLUS = 29;
    private static final int MINUS = 30;
    private static final int TIMES = 31;
    private static final int OVER = 32;
    private static final int OPEN = 33;
    private static final int CLOSE = 34;
    private static final int STOP = 35;
    private static final int AT_MOST = 36;
    private static final int AT_LEAST = 37;

    private static final int NUMBER = 38;
    private static final int TEXT_END = 39;
    private static final int NO_TOKEN = 40;

    // Operations of a law's code that no token stands for.
    private static final int NAMED = 41;
    private static final int NEGATE = 42;
    private static final int UNLESS = 43;
    private static final int SKIP = 44;

    // What a law may name: the six names in the order of WORDS, then counts of the four STATES.
    private static final int ANSWER_AT = 3;
    private static final int BULK_AT = 4;
    private static final int BEHIND_AT = 5;
    private static final int HAS_AT = 6;
    private static final int KNOWN_AT = HAS_AT + REPLICAS;
    private static final int NAMES = KNOWN_AT + REPLICAS;

    private static final int CLAUSE_PARTS = 5;
    private static final int FLIGHT_PARTS = 5;
    private static final int LINE_PARTS = 4;
    private static final int SAID_PARTS = 4;
    private static final int HIGHEST = 1000000;
    private static final int DEEPEST_STACK = 64;

    private final Reader reader = new Reader();
    private int latestFault = NONE;
    private int latestPlace = NONE;
    private final World now = new World();
    private final World trial = new World();
    private final Steps steps = new Steps();
    private final Rules rules = new Rules();
    private final World imageNow = new World();
    private final Steps imageSteps = new Steps();
    private final Rules imageRules = new Rules();

    public DeltaNests() {
    }

    public int feed(int a, int b, int c, int d, int e) {
        if (reader.taped + 20 > TAPE) {
            return NONE;
        }
        reader.tapeFour(a);
        reader.tapeFour(b);
        reader.tapeFour(c);
        reader.tapeFour(d);
        reader.tapeFour(e);
        return reader.taped;
    }

    public int end(int n) {
        if (n < 0 || n > reader.taped) {
            return NONE;
        }
        reader.taped = n;
        return n;
    }

    public int text() {
        if (rules.texts >= TEXTS) {
            return NONE;
        }
        Text read = reader.read();
        reader.taped = 0;
        latestFault = reader.fault;
        latestPlace = reader.place;
        return read == null ? NONE : rules.add(read);
    }

    public int fault(int what) {
        if (what == 0) {
            return latestFault;
        }
        return what == 1 ? latestPlace : NONE;
    }

    public boolean by(int text) {
        if (text != NONE && rules.numbered(text) == null) {
            return false;
        }
        rules.ruling = text;
        return true;
    }

    public boolean delay(int n) {
        if (n < 1 || n > 9) {
            return false;
        }
        rules.delay = n;
        return true;
    }

    public int set(int replica, int key, int field, int value) {
        if (!isCell(replica, key, field) || value < 0 || value >= VALUES) {
            return NONE;
        }
        steps.stage(now);
        return stepped(now.place(replica, key, field, value));
    }

    public int clear(int replica, int key, int field) {
        if (!isCell(replica, key, field)) {
            return NONE;
        }
        steps.stage(now);
        return stepped(now.remove(replica, key, field));
    }

    public int reset(int replica, int key) {
        if (!isReplica(replica) || !isKey(key)) {
            return NONE;
        }
        steps.stage(now);
        return stepped(now.remove(replica, key, NONE));
    }

    public int send(int from, int to) {
        if (!isPair(from, to)) {
            return NONE;
        }
        steps.stage(now);
        return stepped(now.transmit(rules, from, to));
    }

    public int day(int n) {
        if (n < 1 || n > TICKS || now.clock + n > LAST_CLOCK) {
            return NONE;
        }
        int came = 0;
        for (int i = 0; i < n; i++) {
            steps.stage(now);
            came += now.tick(rules);
            steps.commit();
        }
        return came;
    }

    public int played(int text) {
        Text script = rules.numbered(text);
        if (script == null) {
            return OTHER;
        }
        for (int i = 0; i < script.many; i++) {
            if (!perform(script, i)) {
                return i;
            }
        }
        return NONE;
    }

    public int years(int seed, int n) {
        if (seed < 0 || seed > 9999 || n < 1 || n > 24) {
            return NONE;
        }
        steps.stage(now);
        now.x = seed * 2 + 509;
        for (int i = 0; i < n; i++) {
            now.drawYear(rules);
        }
        steps.commit();
        return now.clock;
    }

    public int undo() {
        return steps.takeBack(now);
    }

    public int values(int replica, int key, int field, int i) {
        if (!isCell(replica, key, field)) {
            return OTHER;
        }
        if (i == NONE) {
            return now.nests.many(replica, key, field);
        }
        int dot = now.nests.nth(replica, key, field, i);
        return dot == NONE ? OTHER : now.nests.valueOf(dot);
    }

    public int entry(int replica, int i, int what) {
        if (!isReplica(replica)) {
            return OTHER;
        }
        if (i == NONE) {
            return now.nests.entries(replica);
        }
        int dot = now.nests.nth(replica, NONE, NONE, i);
        if (dot == NONE) {
            return OTHER;
        }
        switch (what) {
            case 0:
                return dot / DOTS_EACH;
            case 1:
                return dot % DOTS_EACH;
            case 2:
                return now.nests.keyOf(dot);
            case 3:
                return now.nests.fieldOf(dot);
            case 4:
                return now.nests.valueOf(dot);
            default:
                return OTHER;
        }
    }

    public int context(int replica, int of) {
        if (!isReplica(replica) || !isReplica(of)) {
            return NONE;
        }
        return now.nests.vector(replica, of);
    }

    public int cloud(int from, int to, int i, int what) {
        if (!isPair(from, to) || !now.hasNews(from, to)) {
            return OTHER;
        }
        now.compose(from, to);
        if (i == NONE) {
            return now.nests.clouded(SENDING);
        }
        int dot = now.nests.nthClouded(SENDING, i);
        if (dot == NONE || what < 0 || what > 1) {
            return OTHER;
        }
        return what == 0 ? dot / DOTS_EACH : dot % DOTS_EACH;
    }

    public boolean knows(int replica, int of, int number) {
        if (!isReplica(replica) || !isReplica(of) || number < 1 || number > NUMBERS) {
            return false;
        }
        return now.nests.isKnown(replica, of, number);
    }

    public int delta(int replica, int i, int what) {
        if (!isReplica(replica)) {
            return OTHER;
        }
        int kept = now.made[replica] - now.dropped[replica];
        if (i == NONE) {
            return kept;
        }
        if (i < 0 || i >= kept) {
            return OTHER;
        }
        int number = now.dropped[replica] + i + 1;
        int row = now.deltaRow(replica, number);
        switch (what) {
            case 0:
                return number;
            case 1:
                return now.nests.entries(row);
            case 2:
                return now.nests.dots(row);
            default:
                return OTHER;
        }
    }

    public int of(int replica, int what) {
        if (!isReplica(replica)) {
            return OTHER;
        }
        switch (what) {
            case 0:
                return now.made[replica];
            case 1:
                return now.dropped[replica];
            case 2:
                return now.nests.keyBits(replica);
            case 3:
                return now.nests.dots(replica);
            default:
                return OTHER;
        }
    }

    public int acked(int replica, int by) {
        return isPair(replica, by) ? now.acked[replica * REPLICAS + by] : NONE;
    }

    public int flight(int i, int what) {
        if (i == NONE) {
            return now.flying;
        }
        if (i < 0 || i >= now.flying || what < 0 || what > FLIGHT_PARTS + 1) {
            return OTHER;
        }
        if (what < FLIGHT_PARTS) {
            return now.flights[i * FLIGHT_PARTS + what];
        }
        return what == FLIGHT_PARTS ? now.nests.entries(FLIGHT_ROWS + i) : now.nests.dots(FLIGHT_ROWS + i);
    }

    public int is(int what) {
        switch (what) {
            case 0:
                return now.clock;
            case 1:
                return now.x;
            case 2:
                return now.sent;
            case 3:
                return now.lost;
            default:
                return OTHER;
        }
    }

    public int book(int i, int what) {
        if (i == NONE) {
            return now.written;
        }
        if (i < 0 || i >= now.written || what < 0 || what >= LINE_PARTS) {
            return OTHER;
        }
        return now.lines[i * LINE_PARTS + what];
    }

    public int foretold(int n, int replica) {
        if (n < 1 || n > TICKS || !isReplica(replica)) {
            return NONE;
        }
        trial.copy(now);
        for (int i = 0; i < n && trial.clock < LAST_CLOCK; i++) {
            trial.tick(rules);
        }
        return trial.nests.digestOf(replica);
    }

    public int need(int from, int to) {
        if (!isPair(from, to) || !now.hasNews(from, to)) {
            return NONE;
        }
        return now.needsState(from, to) ? 0 : now.lag(from, to);
    }

    public int would(int from, int to, int what) {
        if (!isPair(from, to) || !now.hasNews(from, to) || what < 0 || what > 1) {
            return NONE;
        }
        now.compose(from, to);
        return what == 0 ? now.nests.entries(SENDING) : now.nests.dots(SENDING);
    }

    public int digest(int replica) {
        return isReplica(replica) ? now.nests.digestOf(replica) : NONE;
    }

    public boolean same(int a, int b) {
        return isReplica(a) && isReplica(b) && now.nests.alike(a, b);
    }

    public boolean below(int a, int b) {
        if (!isReplica(a) || !isReplica(b)) {
            return false;
        }
        joinTwo(a, b);
        return now.nests.alike(JOINED, b);
    }

    public int join(int a, int b, int what) {
        if (!isReplica(a) || !isReplica(b)) {
            return NONE;
        }
        joinTwo(a, b);
        return ofJoined(what);
    }

    public int all(int what) {
        joinAll();
        return ofJoined(what);
    }

    public int parts(int replica) {
        return isReplica(replica) ? now.nests.dots(replica) : NONE;
    }

    public int unlike(int a, int b) {
        return isReplica(a) && isReplica(b) ? now.nests.differing(a, b) : NONE;
    }

    public int spared(int replica, int key) {
        if (!isReplica(replica) || !isKey(key)) {
            return NONE;
        }
        joinAll();
        now.nests.gather(ARRIVED, replica, key, NONE);
        now.nests.merge(JOINED, ARRIVED);
        return now.nests.many(JOINED, key, NONE);
    }

    public int winner(int replica, int key, int field) {
        return isCell(replica, key, field) ? now.nests.latest(replica, key, field) : NONE;
    }

    public int torn(int replica) {
        if (!isReplica(replica)) {
            return NONE;
        }
        int many = 0;
        for (int cell = 0; cell < KEYS * FIELDS; cell++) {
            if (now.nests.many(replica, cell / FIELDS, cell % FIELDS) > 1) {
                many++;
            }
        }
        return many;
    }

    public int fields(int replica, int key) {
        if (!isReplica(replica) || !isKey(key)) {
            return NONE;
        }
        int bits = 0;
        for (int field = 0; field < FIELDS; field++) {
            if (now.nests.many(replica, key, field) > 0) {
                bits |= 1 << field;
            }
        }
        return bits;
    }

    public int sum(int replica, int key) {
        if (!isReplica(replica) || !isKey(key)) {
            return NONE;
        }
        return now.nests.total(replica, key);
    }

    public int share(int replica, int of) {
        return isReplica(replica) && isReplica(of) ? now.nests.entriesBy(replica, of) : NONE;
    }

    public int behind(int replica) {
        if (!isReplica(replica)) {
            return NONE;
        }
        joinAll();
        return now.nests.dots(JOINED) - now.nests.dots(replica);
    }

    public int freshest() {
        int best = 0;
        for (int replica = 1; replica < REPLICAS; replica++) {
            if (now.nests.dots(replica) > now.nests.dots(best)) {
                best = replica;
            }
        }
        return best;
    }

    public boolean quiet() {
        return now.isQuiet();
    }

    public int till() {
        trial.copy(now);
        for (int ticks = 0; ticks <= TILL_AT_MOST; ticks++) {
            if (trial.isQuiet()) {
                return ticks;
            }
            trial.tick(rules);
        }
        return NONE;
    }

    public boolean speaks(int from, int to) {
        if (!isPair(from, to) || !now.hasNews(from, to)) {
            return false;
        }
        return rules.lets(rules.numbered(rules.ruling), now, from, to, now.lag(from, to));
    }

    public int said(int from, int to, int behind, int speaks) {
        if (from == NONE) {
            rules.sayings = 0;
            return 0;
        }
        if (!isPair(from, to) || behind < 0 || behind > 99 || speaks < 0 || speaks > 1) {
            return OTHER;
        }
        return rules.say(from, to, behind, speaks);
    }

    public int whose() {
        int bits = 0;
        for (int text = 0; text < rules.texts; text++) {
            if (rules.fits(text, now)) {
                bits |= 1 << text;
            }
        }
        return bits;
    }

    public int ledger(int what) {
        if (what < 0 || what >= KINDS) {
            return OTHER;
        }
        int many = 0;
        for (int i = 0; i < now.written; i++) {
            if (now.lines[i * LINE_PARTS + 1] == what) {
                many++;
            }
        }
        return many;
    }

    public int image() {
        imageNow.copy(now);
        imageSteps.copy(steps);
        imageRules.copy(rules);
        return now.clock;
    }

    public int back() {
        now.copy(imageNow);
        steps.copy(imageSteps);
        rules.copy(imageRules);
        return now.clock;
    }

    public int about(int what) {
        switch (what) {
            case 0:
                return rules.texts;
            case 1:
                return rules.ruling;
            case 2:
                return steps.many;
            case 3:
                return rules.sayings;
            case 4:
                return reader.taped;
            case 5:
                return rules.delay;
            default:
                return OTHER;
        }
    }

    private static boolean isReplica(int n) {
        return n >= 0 && n < REPLICAS;
    }

    private static boolean isPair(int from, int to) {
        return isReplica(from) && isReplica(to) && from != to;
    }

    private static boolean isKey(int n) {
        return n >= 0 && n < KEYS;
    }

    private static boolean isCell(int replica, int key, int field) {
        return isReplica(replica) && isKey(key) && field >= 0 && field < FIELDS;
    }

    private int stepped(int answer) {
        if (answer != NONE) {
            steps.commit();
        }
        return answer;
    }

    private boolean perform(Text script, int clause) {
        int a = script.part(clause, 1);
        int b = script.part(clause, 2);
        int c = script.part(clause, 3);
        switch (script.part(clause, 0)) {
            case SET:
                return set(c, b, a, script.part(clause, 4)) != NONE;
            case CLEAR:
                return clear(c, b, a) != NONE;
            case RESET:
                return reset(b, a) != NONE;
            case SEND:
                return send(a, b) != NONE;
            case DAY:
                for (int i = 0; i < a; i++) {
                    if (now.clock >= LAST_CLOCK) {
                        return false;
                    }
                    steps.stage(now);
                    now.tick(rules);
                    steps.commit();
                }
                return true;
            default:
                return true;
        }
    }

    private void joinTwo(int a, int b) {
        now.nests.put(JOINED, a);
        now.nests.merge(JOINED, b);
    }

    private void joinAll() {
        now.nests.wipe(JOINED);
        for (int replica = 0; replica < REPLICAS; replica++) {
            now.nests.merge(JOINED, replica);
        }
    }

    private int ofJoined(int what) {
        switch (what) {
            case 0:
                return now.nests.entries(JOINED);
            case 1:
                return now.nests.dots(JOINED);
            case 2:
                return now.nests.digestOf(JOINED);
            default:
                return NONE;
        }
    }

    /**
     * STATES, a row each: for each REPLICA the bits of the DOTS that the row KNOWS, and of those of its ENTRIES.
     * What an ENTRY holds is kept once by its DOT, since one DOT never has two ENTRIES.
     * A DOT in one int is REPLICA * DOTS_EACH + number; NONE as a KEY or FIELD means any.
     */
    private static final class Nests {
        final long[] known = new long[ROWS * REPLICAS];
        final long[] alive = new long[ROWS * REPLICAS];
        final int[] contents = new int[REPLICAS * DOTS_EACH];

        void copy(Nests other) {
            System.arraycopy(other.known, 0, known, 0, known.length);
            System.arraycopy(other.alive, 0, alive, 0, alive.length);
            System.arraycopy(other.contents, 0, contents, 0, contents.length);
        }

        void wipe(int row) {
            for (int i = row * REPLICAS; i < (row + 1) * REPLICAS; i++) {
                known[i] = 0;
                alive[i] = 0;
            }
        }

        void put(int row, int from) {
            move(from, row, 1);
        }

        void move(int from, int to, int rows) {
            System.arraycopy(known, from * REPLICAS, known, to * REPLICAS, rows * REPLICAS);
            System.arraycopy(alive, from * REPLICAS, alive, to * REPLICAS, rows * REPLICAS);
        }

        void merge(int row, int from) {
            for (int replica = 0; replica < REPLICAS; replica++) {
                int i = row * REPLICAS + replica;
                int j = from * REPLICAS + replica;
                long gone = (known[i] & ~alive[i]) | (known[j] & ~alive[j]);
                known[i] |= known[j];
                alive[i] = known[i] & ~gone;
            }
        }

        boolean alike(int a, int b) {
            for (int replica = 0; replica < REPLICAS; replica++) {
                int i = a * REPLICAS + replica;
                int j = b * REPLICAS + replica;
                if (known[i] != known[j] || alive[i] != alive[j]) {
                    return false;
                }
            }
            return true;
        }

        int entries(int row) {
            int many = 0;
            for (int i = row * REPLICAS; i < (row + 1) * REPLICAS; i++) {
                many += Long.bitCount(alive[i]);
            }
            return many;
        }

        int entriesBy(int row, int replica) {
            return Long.bitCount(alive[row * REPLICAS + replica]);
        }

        int dots(int row) {
            int many = 0;
            for (int i = row * REPLICAS; i < (row + 1) * REPLICAS; i++) {
                many += Long.bitCount(known[i]);
            }
            return many;
        }

        int vector(int row, int replica) {
            long bits = known[row * REPLICAS + replica];
            return Long.bitCount(bits ^ (bits + 1)) - 1;
        }

        boolean isKnown(int row, int replica, int number) {
            return (known[row * REPLICAS + replica] >> (number - 1) & 1) != 0;
        }

        private boolean hasEntry(int row, int dot, int key, int field) {
            int replica = dot / DOTS_EACH;
            int number = dot % DOTS_EACH;
            return number > 0 && (alive[row * REPLICAS + replica] >> (number - 1) & 1) != 0
                && (key == NONE || keyOf(dot) == key) && (field == NONE || fieldOf(dot) == field);
        }

        int keyOf(int dot) {
            return contents[dot] / (FIELDS * VALUES);
        }

        int fieldOf(int dot) {
            return contents[dot] / VALUES % FIELDS;
        }

        int valueOf(int dot) {
            return contents[dot] % VALUES;
        }

        int many(int row, int key, int field) {
            int many = 0;
            for (int dot = 0; dot < contents.length; dot++) {
                if (hasEntry(row, dot, key, field)) {
                    many++;
                }
            }
            return many;
        }

        int nth(int row, int key, int field, int n) {
            int many = 0;
            for (int dot = 0; dot < contents.length; dot++) {
                if (hasEntry(row, dot, key, field)) {
                    if (many == n) {
                        return dot;
                    }
                    many++;
                }
            }
            return NONE;
        }

        int latest(int row, int key, int field) {
            for (int number = NUMBERS; number > 0; number--) {
                for (int replica = REPLICAS - 1; replica >= 0; replica--) {
                    int dot = replica * DOTS_EACH + number;
                    if (hasEntry(row, dot, key, field)) {
                        return valueOf(dot);
                    }
                }
            }
            return NONE;
        }

        int total(int row, int key) {
            int total = 0;
            for (int dot = 0; dot < contents.length; dot++) {
                if (hasEntry(row, dot, key, NONE)) {
                    total += valueOf(dot);
                }
            }
            return total;
        }

        int keyBits(int row) {
            int bits = 0;
            for (int dot = 0; dot < contents.length; dot++) {
                if (hasEntry(row, dot, NONE, NONE)) {
                    bits |= 1 << keyOf(dot);
                }
            }
            return bits;
        }

        int digestOf(int row) {
            int digest = 0;
            for (int dot = 0; dot < contents.length; dot++) {
                if (hasEntry(row, dot, NONE, NONE)) {
                    int replica = dot / DOTS_EACH;
                    int number = dot % DOTS_EACH;
                    int entry = 101 * replica + 7 * number + 5 * keyOf(dot) + 3 * fieldOf(dot) + valueOf(dot);
                    digest = (31 * digest + entry) % 9973;
                }
            }
            return digest;
        }

        /** The row becomes one without ENTRIES that KNOWS the DOTS of such ENTRIES of the other. */
        void gather(int row, int from, int key, int field) {
            wipe(row);
            for (int dot = 0; dot < contents.length; dot++) {
                if (hasEntry(from, dot, key, field)) {
                    known[row * REPLICAS + dot / DOTS_EACH] |= 1L << (dot % DOTS_EACH - 1);
                }
            }
        }

        void bear(int row, int replica, int number, int content) {
            long bit = 1L << (number - 1);
            known[row * REPLICAS + replica] |= bit;
            alive[row * REPLICAS + replica] |= bit;
            contents[replica * DOTS_EACH + number] = content;
        }

        int differing(int a, int b) {
            int many = 0;
            for (int replica = 0; replica < REPLICAS; replica++) {
                int i = a * REPLICAS + replica;
                int j = b * REPLICAS + replica;
                many += Long.bitCount(alive[i] & ~known[j]);
                many += Long.bitCount(known[i] & ~alive[i] & (~known[j] | alive[j]));
            }
            return many;
        }

        int clouded(int row) {
            int many = dots(row);
            for (int replica = 0; replica < REPLICAS; replica++) {
                many -= vector(row, replica);
            }
            return many;
        }

        int nthClouded(int row, int n) {
            int many = 0;
            for (int replica = 0; replica < REPLICAS; replica++) {
                for (int number = vector(row, replica) + 1; number <= NUMBERS; number++) {
                    if (isKnown(row, replica, number)) {
                        if (many == n) {
                            return replica * DOTS_EACH + number;
                        }
                        many++;
                    }
                }
            }
            return NONE;
        }
    }

    /** All that a STEP changes and that taking it back brings again. */
    private static final class World {
        final Nests nests = new Nests();
        final int[] acked = new int[REPLICAS * REPLICAS];
        final int[] made = new int[REPLICAS];
        final int[] dropped = new int[REPLICAS];
        final int[] flights = new int[FLIGHTS * FLIGHT_PARTS];
        final int[] lines = new int[LINES * LINE_PARTS];
        int flying = 0;
        int written = 0;
        int clock = 0;
        int x = 509;
        int sent = 0;
        int lost = 0;

        void copy(World other) {
            nests.copy(other.nests);
            System.arraycopy(other.acked, 0, acked, 0, acked.length);
            System.arraycopy(other.made, 0, made, 0, made.length);
            System.arraycopy(other.dropped, 0, dropped, 0, dropped.length);
            System.arraycopy(other.flights, 0, flights, 0, flights.length);
            System.arraycopy(other.lines, 0, lines, 0, lines.length);
            flying = other.flying;
            written = other.written;
            clock = other.clock;
            x = other.x;
            sent = other.sent;
            lost = other.lost;
        }

        int place(int replica, int key, int field, int value) {
            int number = nests.vector(replica, replica) + 1;
            if (number > NUMBERS) {
                return NONE;
            }
            int row = nextDelta(replica);
            nests.gather(row, replica, key, field);
            nests.bear(row, replica, number, (key * FIELDS + field) * VALUES + value);
            nests.merge(replica, row);
            write(WAS_SET, replica, key);
            return number;
        }

        /** CLEARED, or RESET where the FIELD is NONE. */
        int remove(int replica, int key, int field) {
            int gone = nests.many(replica, key, field);
            if (gone == 0) {
                return NONE;
            }
            int row = nextDelta(replica);
            nests.gather(row, replica, key, field);
            nests.merge(replica, row);
            write(field == NONE ? WAS_RESET : WAS_CLEARED, replica, key);
            return gone;
        }

        int transmit(Rules rules, int from, int to) {
            if (from == to || !hasNews(from, to)) {
                return NONE;
            }
            compose(from, to);
            post(rules, from, to, 0, made[from]);
            return made[from];
        }

        int tick(Rules rules) {
            clock++;
            int came = 0;
            for (int i = 0; i < FLIGHTS && flying > 0 && flights[2] <= clock; i++) {
                come(rules);
                came++;
            }
            Text law = rules.numbered(rules.ruling);
            for (int from = 0; from < REPLICAS; from++) {
                for (int to = 0; to < REPLICAS; to++) {
                    if (from != to && hasNews(from, to) && rules.lets(law, this, from, to, lag(from, to))) {
                        transmit(rules, from, to);
                    }
                }
            }
            return came;
        }

        void drawYear(Rules rules) {
            int drawn = draw();
            int replica = drawn / 8 % REPLICAS;
            int key = drawn / 32 % KEYS;
            switch (drawn % 8) {
                case 0:
                case 1:
                case 2:
                    place(replica, key, drawn % FIELDS, drawn % VALUES);
                    break;
                case 3:
                    remove(replica, key, NONE);
                    break;
                case 4:
                case 5:
                    transmit(rules, replica, (replica + drawn / 32 % 3 + 1) % REPLICAS);
                    break;
                default:
                    if (clock < LAST_CLOCK) {
                        tick(rules);
                    }
                    break;
            }
        }

        boolean hasNews(int from, int to) {
            return lag(from, to) > 0;
        }

        int lag(int from, int to) {
            return made[from] - acked[from * REPLICAS + to];
        }

        boolean needsState(int from, int to) {
            return acked[from * REPLICAS + to] < dropped[from];
        }

        int deltaRow(int replica, int number) {
            return DELTA_ROWS + replica * KEPT_DELTAS + Math.floorMod(number - 1, KEPT_DELTAS);
        }

        /** The row SENDING becomes what would be sent. */
        void compose(int from, int to) {
            if (needsState(from, to)) {
                nests.put(SENDING, from);
                return;
            }
            nests.wipe(SENDING);
            int first = Math.max(acked[from * REPLICAS + to], made[from] - KEPT_DELTAS) + 1;
            for (int number = first; number <= made[from]; number++) {
                nests.merge(SENDING, deltaRow(from, number));
            }
        }

        boolean isQuiet() {
            if (flying > 0) {
                return false;
            }
            for (int pair = 0; pair < acked.length; pair++) {
                int from = pair / REPLICAS;
                int to = pair % REPLICAS;
                if (from != to && hasNews(from, to)) {
                    return false;
                }
            }
            return true;
        }

        void describe(int[] named, int from, int to) {
            named[0] = clock;
            named[1] = from;
            named[2] = to;
            Arrays.fill(named, HAS_AT, NAMES, 0);
            for (int i = 0; i < REPLICAS * REPLICAS; i++) {
                named[HAS_AT + i / REPLICAS] += Long.bitCount(nests.alive[i]);
                named[KNOWN_AT + i / REPLICAS] += Long.bitCount(nests.known[i]);
            }
        }

        private int draw() {
            int drawn = x;
            x = (x * 773 + 641) % 31139;
            return drawn;
        }

        /** The eldest DELTA, if it must go, goes here, since the new one takes its row. */
        private int nextDelta(int replica) {
            made[replica]++;
            dropped[replica] = Math.max(dropped[replica], made[replica] - KEPT_DELTAS);
            return deltaRow(replica, made[replica]);
        }

        private void post(Rules rules, int from, int to, int answer, int upTo) {
            sent++;
            int drawn = draw() % 10;
            if (drawn < rules.losing(this, from, to, answer, nests.entries(SENDING)) || flying >= FLIGHTS) {
                lost++;
                write(WAS_LOST, to, from);
                return;
            }
            int at = roomFor(clock + rules.delay);
            flights[at] = from;
            flights[at + 1] = to;
            flights[at + 2] = clock + rules.delay;
            flights[at + 3] = answer;
            flights[at + 4] = upTo;
        }

        /** IN FLIGHT stand in the order in which they come, like ones as they were sent. */
        private int roomFor(int time) {
            int place = flying;
            while (place > 0 && flights[(place - 1) * FLIGHT_PARTS + 2] > time) {
                place--;
            }
            int at = place * FLIGHT_PARTS;
            System.arraycopy(flights, at, flights, at + FLIGHT_PARTS, (flying - place) * FLIGHT_PARTS);
            nests.move(FLIGHT_ROWS + place, FLIGHT_ROWS + place + 1, flying - place);
            nests.move(SENDING, FLIGHT_ROWS + place, 1);
            flying++;
            return at;
        }

        private void come(Rules rules) {
            int from = flights[0];
            int to = flights[1];
            int answer = flights[3];
            int upTo = flights[4];
            nests.put(ARRIVED, FLIGHT_ROWS);
            flying--;
            System.arraycopy(flights, FLIGHT_PARTS, flights, 0, flying * FLIGHT_PARTS);
            nests.move(FLIGHT_ROWS + 1, FLIGHT_ROWS, flying);
            write(CAME, to, from);
            if (answer == 1) {
                acknowledge(to, from, upTo);
                return;
            }
            absorb(to);
            nests.wipe(SENDING);
            post(rules, to, from, 1, upTo);
        }

        private void absorb(int replica) {
            nests.put(JOINED, replica);
            nests.merge(JOINED, ARRIVED);
            if (!nests.alike(JOINED, replica)) {
                nests.put(replica, JOINED);
                nests.put(nextDelta(replica), ARRIVED);
            }
        }

        private void acknowledge(int replica, int by, int upTo) {
            int pair = replica * REPLICAS + by;
            acked[pair] = Math.max(acked[pair], upTo);
            int least = made[replica];
            for (int other = 0; other < REPLICAS; other++) {
                if (other != replica) {
                    least = Math.min(least, acked[replica * REPLICAS + other]);
                }
            }
            dropped[replica] = Math.max(dropped[replica], least);
        }

        private void write(int kind, int replica, int second) {
            if (written >= LINES) {
                System.arraycopy(lines, LINE_PARTS, lines, 0, (LINES - 1) * LINE_PARTS);
                written = LINES - 1;
            }
            int at = written * LINE_PARTS;
            lines[at] = clock;
            lines[at + 1] = kind;
            lines[at + 2] = replica;
            lines[at + 3] = second;
            written++;
        }
    }

    /** The worlds ahead of the latest STEPS, in a ring with one place more, where the next one waits. */
    private static final class Steps {
        private final World[] worlds = new World[KEPT_STEPS + 1];
        private int first = 0;
        int many = 0;

        Steps() {
            for (int i = 0; i < worlds.length; i++) {
                worlds[i] = new World();
            }
        }

        private int slot(int i) {
            return (first + i) % worlds.length;
        }

        void stage(World world) {
            worlds[slot(many)].copy(world);
        }

        void commit() {
            if (many < KEPT_STEPS) {
                many++;
            } else {
                first = slot(1);
            }
        }

        int takeBack(World world) {
            if (many == 0) {
                return NONE;
            }
            many--;
            world.copy(worlds[slot(many)]);
            return many;
        }

        void copy(Steps other) {
            first = 0;
            many = other.many;
            for (int i = 0; i < many; i++) {
                worlds[i].copy(other.worlds[other.slot(i)]);
            }
        }
    }

    /** What is told and taking back leaves: TEXTS, THE TEXT, DELAY, SAID. */
    private static final class Rules {
        private final Text[] read = new Text[TEXTS];
        int texts = 0;
        int ruling = NONE;
        int delay = 2;
        private final int[] told = new int[SAYINGS * SAID_PARTS];
        int sayings = 0;
        private final int[] named = new int[NAMES];
        private final int[] stack = new int[DEEPEST_STACK];

        void copy(Rules other) {
            for (int i = 0; i < TEXTS; i++) {
                read[i] = other.read[i];
            }
            texts = other.texts;
            ruling = other.ruling;
            delay = other.delay;
            System.arraycopy(other.told, 0, told, 0, told.length);
            sayings = other.sayings;
        }

        int add(Text text) {
            if (texts >= TEXTS) {
                return NONE;
            }
            read[texts] = text;
            texts++;
            return texts - 1;
        }

        Text numbered(int text) {
            return text >= 0 && text < texts ? read[text] : null;
        }

        int say(int from, int to, int behind, int speaks) {
            if (sayings >= SAYINGS) {
                return OTHER;
            }
            int at = sayings * SAID_PARTS;
            told[at] = from;
            told[at + 1] = to;
            told[at + 2] = behind;
            told[at + 3] = speaks;
            sayings++;
            return sayings;
        }

        int losing(World world, int from, int to, int answer, int bulk) {
            Text law = numbered(ruling);
            if (law == null || !law.rules(LOSES)) {
                return 3;
            }
            world.describe(named, from, to);
            named[ANSWER_AT] = answer;
            named[BULK_AT] = bulk;
            int loses = law.value(LOSES, named, stack);
            if (loses < 0) {
                return 0;
            }
            return loses > 10 ? 10 : loses;
        }

        boolean lets(Text law, World world, int from, int to, int behind) {
            if (law == null || !law.rules(SPEAKS)) {
                return false;
            }
            world.describe(named, from, to);
            named[BEHIND_AT] = behind;
            return law.value(SPEAKS, named, stack) > 0;
        }

        boolean fits(int text, World world) {
            for (int i = 0; i < sayings; i++) {
                int at = i * SAID_PARTS;
                boolean lets = lets(numbered(text), world, told[at], told[at + 1], told[at + 2]);
                if (lets != (told[at + 3] == 1)) {
                    return false;
                }
            }
            return true;
        }
    }

    /** A TEXT that was read; its laws are code for a stack, so that long SUMS need no deep calls. */
    private static final class Text {
        final int many;
        private final int[] clauses;
        private final int[] code;
        private final int[] bounds;

        Text(int many, int[] clauses, int[] code, int[] bounds) {
            this.many = many;
            this.clauses = clauses;
            this.code = code;
            this.bounds = bounds;
        }

        int part(int clause, int part) {
            int at = clause * CLAUSE_PARTS + part;
            return at >= 0 && at < clauses.length ? clauses[at] : 0;
        }

        boolean rules(int law) {
            return bounds[law * 2] != NONE;
        }

        int value(int law, int[] named, int[] stack) {
            int at = bounds[law * 2];
            int to = bounds[law * 2 + 1];
            int top = 0;
            for (int done = 0; done < code.length && at >= 0 && at < to; done++) {
                int operation = code[at * 2];
                int with = code[at * 2 + 1];
                at++;
                if (operation == SKIP) {
                    at = with;
                } else if (operation == UNLESS && top > 0) {
                    top--;
                    at = stack[top] == 0 ? with : at;
                } else if (operation == NUMBER && top < stack.length) {
                    stack[top] = with;
                    top++;
                } else if (operation == NAMED && top < stack.length && with >= 0 && with < named.length) {
                    stack[top] = named[with];
                    top++;
                } else if (isOfOne(operation) && top > 0) {
                    stack[top - 1] = ofOne(operation, stack[top - 1], named);
                } else if (top > 1) {
                    top--;
                    stack[top - 1] = ofTwo(operation, stack[top - 1], stack[top]);
                }
            }
            return top > 0 ? stack[0] : 0;
        }

        private static boolean isOfOne(int operation) {
            return operation == NEGATE || operation == NOT || operation == HAS || operation == KNOWN;
        }

        private static int ofOne(int operation, int a, int[] named) {
            switch (operation) {
                case NEGATE:
                    return -a;
                case NOT:
                    return a == 0 ? 1 : 0;
                case HAS:
                    return a >= 0 && a < REPLICAS ? named[HAS_AT + a] : 0;
                default:
                    return a >= 0 && a < REPLICAS ? named[KNOWN_AT + a] : 0;
            }
        }

        private static int ofTwo(int operation, int a, int b) {
            long value = 0;
            switch (operation) {
                case PLUS:
                    value = a + b;
                    break;
                case MINUS:
                    value = a - b;
                    break;
                case TIMES:
                    value = (long) a * b;
                    break;
                case OVER:
                    value = b == 0 ? 0 : a / b;
                    break;
                case LESS:
                    return a < b ? 1 : 0;
                case AT_MOST:
                    return a <= b ? 1 : 0;
                case MORE:
                    return a > b ? 1 : 0;
                case AT_LEAST:
                    return a >= b ? 1 : 0;
                case LIKE:
                    return a == b ? 1 : 0;
                case UNLIKE:
                    return a != b ? 1 : 0;
                case AND:
                    return a & b;
                default:
                    return a | b;
            }
            if (value > HIGHEST) {
                return HIGHEST;
            }
            return value < -HIGHEST ? -HIGHEST : (int) value;
        }
    }

    /** Reads a tape into a TEXT; every reading method answers whether there was no FAULT. */
    private static final class Reader {
        private final byte[] tape = new byte[TAPE];
        int taped = 0;
        private int start = 0;
        private int next = 0;
        private int token = TEXT_END;
        private int number = 0;
        int fault = 0;
        int place = NONE;
        private final int[] clauses = new int[CLAUSES * CLAUSE_PARTS];
        private int many = 0;
        private int parts = 0;
        private final int[] code = new int[TAPE * 2];
        private int coded = 0;
        private final int[] bounds = new int[4];
        private int law = LOSES;

        void tapeFour(int bytes) {
            for (int shift = 24; shift >= 0 && taped < TAPE; shift -= 8) {
                tape[taped] = (byte) (bytes >> shift);
                taped++;
            }
        }

        Text read() {
            next = 0;
            fault = 0;
            place = NONE;
            many = 0;
            coded = 0;
            Arrays.fill(clauses, 0);
            Arrays.fill(bounds, NONE);
            advance();
            for (int i = 0; i <= CLAUSES && token != TEXT_END; i++) {
                if (!readClause()) {
                    return null;
                }
            }
            return new Text(many, Arrays.copyOf(clauses, many * CLAUSE_PARTS), Arrays.copyOf(code, coded * 2),
                bounds.clone());
        }

        private boolean wrong(int which) {
            fault = which;
            place = start;
            return false;
        }

        private boolean readClause() {
            int kind = token;
            if (kind < LOSES || kind > DAY) {
                return wrong(1);
            }
            boolean isLaw = kind == LOSES || kind == SPEAKS;
            if (isLaw && bounds[kind * 2] != NONE) {
                return wrong(4);
            }
            if (many >= CLAUSES) {
                return wrong(6);
            }
            clauses[many * CLAUSE_PARTS] = kind;
            parts = 1;
            advance();
            boolean good;
            if (isLaw) {
                law = kind;
                bounds[kind * 2] = coded;
                good = readSum(0) && accept(STOP);
                bounds[kind * 2 + 1] = coded;
            } else {
                good = readAct(kind) && accept(STOP);
            }
            many++;
            return good;
        }

        private boolean readAct(int kind) {
            switch (kind) {
                case SET:
                    return readNumber(0, FIELDS - 1) && accept(OF) && readNumber(0, KEYS - 1) && accept(AT)
                        && readNumber(0, REPLICAS - 1) && accept(TO) && readNumber(0, VALUES - 1);
                case CLEAR:
                    return readNumber(0, FIELDS - 1) && accept(OF) && readNumber(0, KEYS - 1) && accept(AT)
                        && readNumber(0, REPLICAS - 1);
                case RESET:
                    return readNumber(0, KEYS - 1) && accept(AT) && readNumber(0, REPLICAS - 1);
                case SEND:
                    return readNumber(0, REPLICAS - 1) && accept(TO) && readNumber(0, REPLICAS - 1);
                default:
                    return readNumber(1, TICKS);
            }
        }

        private boolean readNumber(int least, int most) {
            if (token != NUMBER) {
                return wrong(1);
            }
            if (number < least || number > most) {
                return wrong(2);
            }
            if (parts < CLAUSE_PARTS) {
                clauses[many * CLAUSE_PARTS + parts] = number;
                parts++;
            }
            advance();
            return true;
        }

        private boolean accept(int wanted) {
            if (token != wanted) {
                return wrong(1);
            }
            advance();
            return true;
        }

        private boolean readSum(int open) {
            if (!readProduct(open)) {
                return false;
            }
            for (int i = 0; i < TAPE && (token == PLUS || token == MINUS); i++) {
                int operation = token;
                advance();
                if (!readProduct(open)) {
                    return false;
                }
                emit(operation, 0);
            }
            return true;
        }

        private boolean readProduct(int open) {
            if (!readOne(open)) {
                return false;
            }
            for (int i = 0; i < TAPE && (token == TIMES || token == OVER); i++) {
                int operation = token;
                advance();
                if (!readOne(open)) {
                    return false;
                }
                emit(operation, 0);
            }
            return true;
        }

        private boolean readOne(int open) {
            int first = token;
            if (first == NUMBER || (first >= CLOCK && first <= BEHIND)) {
                if (first == NUMBER ? number > 9999 : !isNameOfLaw(first)) {
                    return wrong(first == NUMBER ? 2 : 5);
                }
                emit(first == NUMBER ? NUMBER : NAMED, first == NUMBER ? number : first - CLOCK);
                advance();
                return true;
            }
            if (first != OPEN && first != MINUS && first != HAS && first != KNOWN && first != IF) {
                return wrong(1);
            }
            if (open >= NESTED) {
                return wrong(3);
            }
            advance();
            if (first == IF) {
                return readChoice(open + 1);
            }
            if (first == OPEN) {
                return readSum(open + 1) && accept(CLOSE);
            }
            if (!readOne(open + 1)) {
                return false;
            }
            emit(first == MINUS ? NEGATE : first, 0);
            return true;
        }

        private boolean isNameOfLaw(int name) {
            return name <= OTHER_NAME || (name == BEHIND) == (law == SPEAKS);
        }

        private boolean readChoice(int open) {
            if (!readEither(open)) {
                return false;
            }
            int unless = emit(UNLESS, 0);
            if (!accept(THEN) || !readSum(open)) {
                return false;
            }
            int skip = emit(SKIP, 0);
            leadOn(unless);
            if (!accept(ELSE) || !readSum(open)) {
                return false;
            }
            leadOn(skip);
            return accept(END_WORD);
        }

        private boolean readEither(int open) {
            if (!readBoth(open)) {
                return false;
            }
            for (int i = 0; i < TAPE && token == OR; i++) {
                advance();
                if (!readBoth(open)) {
                    return false;
                }
                emit(OR, 0);
            }
            return true;
        }

        private boolean readBoth(int open) {
            if (!readAsk(open)) {
                return false;
            }
            for (int i = 0; i < TAPE && token == AND; i++) {
                advance();
                if (!readAsk(open)) {
                    return false;
                }
                emit(AND, 0);
            }
            return true;
        }

        private boolean readAsk(int open) {
            if (token == NOT) {
                if (open >= NESTED) {
                    return wrong(3);
                }
                advance();
                if (!readAsk(open + 1)) {
                    return false;
                }
                emit(NOT, 0);
                return true;
            }
            if (!readSum(open)) {
                return false;
            }
            int relation = token;
            if (!(relation >= LESS && relation <= UNLIKE) && relation != AT_MOST && relation != AT_LEAST) {
                return wrong(1);
            }
            advance();
            if (!readSum(open)) {
                return false;
            }
            emit(relation, 0);
            return true;
        }

        private int emit(int operation, int with) {
            if (coded < TAPE) {
                code[coded * 2] = operation;
                code[coded * 2 + 1] = with;
                coded++;
            }
            return coded - 1;
        }

        private void leadOn(int at) {
            if (at >= 0 && at < coded) {
                code[at * 2 + 1] = coded;
            }
        }

        private int byteAt(int at) {
            return at >= 0 && at < taped ? tape[at] & 255 : 0;
        }

        private static boolean isLetter(int c) {
            return (c >= 'a' && c <= 'z') || (c >= 'A' && c <= 'Z');
        }

        private static boolean isDigit(int c) {
            return c >= '0' && c <= '9';
        }

        private void advance() {
            start = next;
            while (start < taped && (byteAt(start) == 32 || byteAt(start) == 10)) {
                start++;
            }
            next = start + 1;
            if (start >= taped) {
                start = taped;
                next = taped;
                token = TEXT_END;
            } else if (isLetter(byteAt(start))) {
                while (next < taped && isLetter(byteAt(next))) {
                    next++;
                }
                token = wordBetween(start, next);
            } else if (isDigit(byteAt(start))) {
                takeDigits();
            } else {
                takeSign();
            }
        }

        private void takeDigits() {
            token = NUMBER;
            number = byteAt(start) - '0';
            while (next < taped && isDigit(byteAt(next))) {
                // Any number above 9999 is as wrong as any other, so that it need not grow on.
                number = Math.min(number * 10 + byteAt(next) - '0', 10000);
                next++;
            }
        }

        private void takeSign() {
            int sign = SIGNS.indexOf((char) byteAt(start));
            token = sign < 0 ? NO_TOKEN : FIRST_SIGN + sign;
            if ((token == LESS || token == MORE) && byteAt(next) == '=') {
                token = token == LESS ? AT_MOST : AT_LEAST;
                next++;
            }
        }

        private int wordBetween(int from, int to) {
            int word = 0;
            int matched = 0;
            for (int i = 0; i < WORDS.length(); i++) {
                char c = WORDS.charAt(i);
                if (c == ' ') {
                    if (matched == to - from) {
                        return word;
                    }
                    word++;
                    matched = 0;
                } else if (matched >= 0 && matched < to - from && tape[from + matched] == c) {
                    matched++;
                } else {
                    matched = NONE;
                }
            }
            return NO_TOKEN;
        }
    }
}
