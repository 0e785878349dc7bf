/**
 * Logs that carry letters down a river of reaches, by the weeks.
 *
 * All rows are made with the object and used again: a run of calls must fit into one room,
 * so what is only thought (behind, frees, rolled, ..) goes on in rivers that are kept for it.
 */
public final class LogLetters {
    public static final int BAD = -1000000001, NO = -1000000002, FULL = -1000000003, NONE = -1000000005, NOTHING = -1000000011, KIND = -1000000012, INDEX = -1000000013, SIZE = -1000000014;

    private static final int REACHES = 12, COME = 12, OUT = 13;
    private static final int MOST_LOGS = 12, MOST_LETTERS = 12, MOST_LAWS = 14, MOST_WEEKS = 9999;
    private static final int FIRST_ROOM = 4, MOST_ROOM = 12, FIRST_FLOOD = 3;
    private static final int PLAIN = 0, HEAVY = 1, SPLIT = 2, KNOTTED = 3, BRANDED = 4, SUNK = 5;
    /** For each kind the one right above it; -1 above the first. */
    private static final int[] ABOVE = {-1, 0, 0, 1, 2, 0};
    private static final int DRIFT = 0, FEE = 1, FINE = 2;
    private static final int TAPE_BYTES = 96, DEEPEST = 8, MOST_DIGITS = 4;
    /** In a law's code: numbers stand as they are, names and signs behind these. */
    private static final int NAMES_FROM = 10000, SIGNS_FROM = 20000;
    private static final int SHEETS = 4, PLACES = 24, MISSING = -1, SHORTS = 0, FLOATS = 1, FARTHEST_FLOAT = 99999;
    private static final int SLOTS = 5, EMPTY = 0, A_LOG = 1, A_SHEET = 2, A_NUMBER = 3;
    private static final int MOST_WAITING = 60, WHOLE_WITHIN = 200;

    private final River river = new River();
    private final River image = new River();
    private final River thought = new River();
    private final River fork = new River();
    private final Reader reader = new Reader();
    private final Row[] sheets = new Row[SHEETS];
    private final Slot[] slots = new Slot[SLOTS];
    private final int[] waiting = new int[MOST_WAITING];
    private int waitingCount = 0;
    private boolean hasImage = false;

    public LogLetters() {
        for (int i = 0; i < SHEETS; i++) {
            sheets[i] = new Row();
        }
        for (int i = 0; i < SLOTS; i++) {
            slots[i] = new Slot();
        }
    }

    // ---- logs, reaches

    public int log(int kind, int letter, int mass) {
        if (!isKind(kind) || !isLetter(letter) || !isMass(mass)) {
            return BAD;
        }
        return river.addLog(kind, letter, mass) ? river.logCount - 1 : FULL;
    }

    public int told(int log, int what) {
        if (!river.hasLog(log)) {
            return BAD;
        }
        Log one = river.logs[log];
        switch (what) {
            case 0: return one.kind;
            case 1: return one.letter;
            case 2: return one.mass;
            case 3: return one.reach;
            case 4: return one.came;
            case 5: return river.driftOf(one, river.lawFor(DRIFT));
            case 6: return one.claimedBy(river.saw);
            case 7: return one.worth();
            default: return BAD;
        }
    }

    public int as(int log, int kind) {
        if (!river.hasLog(log) || !isKind(kind)) {
            return BAD;
        }
        return river.logs[log].isOf(kind) ? river.logs[log].mass : KIND;
    }

    public int turns(int log, int kind) {
        if (!river.hasLog(log) || !isKind(kind)) {
            return BAD;
        }
        int before = river.logs[log].kind;
        river.logs[log].kind = kind;
        return before;
    }

    public int set(int log, int what, int v) {
        if (!river.hasLog(log)) {
            return BAD;
        }
        Log one = river.logs[log];
        int before = BAD;
        if (what == 1 && isLetter(v)) {
            before = one.letter;
            one.letter = v;
        } else if (what == 2 && isMass(v)) {
            before = one.mass;
            one.mass = v;
        }
        return before;
    }

    public int lays(int log, int reach) {
        if (!river.hasLog(log) || !isReach(reach) && reach != OUT) {
            return BAD;
        }
        int before = river.logs[log].reach;
        if (before == COME) {
            return NO;
        }
        river.logs[log].reach = reach;
        return before;
    }

    public int reach(int reach, int what, int v) {
        if (!isReach(reach)) {
            return BAD;
        }
        int before = BAD;
        if (what == 0 && within(v, 1, MOST_ROOM)) {
            before = river.room[reach];
            river.room[reach] = v;
        } else if (what == 1 && within(v, 0, 1)) {
            before = river.boom[reach];
            river.boom[reach] = v;
        }
        return before;
    }

    public int rule(int what, int v) {
        int before = BAD;
        if (what == 0 && within(v, 0, 9)) {
            before = river.dry;
            river.dry = v;
        } else if (what == 1 && within(v, 0, 100)) {
            before = river.saw;
            river.saw = v;
        } else if (what == 2 && within(v, 0, 9)) {
            before = river.flood;
            river.flood = v;
        }
        return before;
    }

    public int word(int letter) {
        if (!isLetter(letter)) {
            return BAD;
        }
        return river.addLetter(letter) ? river.letterCount : FULL;
    }

    public int unword() {
        int before = river.letterCount;
        river.letterCount = 0;
        return before;
    }

    public int deal(int n) {
        if (!within(n, 1, MOST_LOGS)) {
            return BAD;
        }
        int dealt = Math.min(n, MOST_LOGS - river.logCount);
        for (int i = 0; i < dealt; i++) {
            river.drawLog();
        }
        return dealt;
    }

    public int seed(int v) {
        int before = river.z;
        river.z = v;
        return before;
    }

    // ---- weeks

    public int weeks(int n) {
        if (!within(n, 1, 60)) {
            return BAD;
        }
        int before = river.comeCount;
        river.passWeeks(Math.min(n, MOST_WEEKS - river.week));
        return river.comeCount - before;
    }

    public int read(int k) {
        if (!within(k, -1, MOST_LOGS - 1)) {
            return BAD;
        }
        return k == -1 ? river.comeCount : river.letterRead(k);
    }

    public int river(int what) {
        switch (what) {
            case 0: return river.spelt();
            case 1: return river.jammed();
            case 2: return river.sawn;
            case 3: return river.comeCount;
            case 4: return river.afloat();
            default: return BAD;
        }
    }

    // ---- what will be

    public int behind(int n, int what) {
        if (!within(n, 0, 60) || what < 0 || what > 2 && !river.hasLog(what - 3)) {
            return BAD;
        }
        startThought();
        thought.passWeeks(n);
        switch (what) {
            case 0: return thought.comeCount;
            case 1: return thought.sawn;
            case 2: return thought.spelt();
            default: return thought.logs[what - 3].reach;
        }
    }

    public int whole() {
        startThought();
        for (int n = 0; n <= WHOLE_WITHIN; n++) {
            if (thought.spelt() == thought.letterCount) {
                return n;
            }
            thought.passWeek();
        }
        return NONE;
    }

    public int frees(int n, int what) {
        if (!within(n, 1, 40) || !within(what, 0, 1)) {
            return BAD;
        }
        int best = NONE;
        int most = NONE;
        for (int i = 0; i < river.logCount; i++) {
            if (river.logs[i].isAfloat()) {
                startThoughtWithout(i);
                thought.passWeeks(n);
                if (thought.comeCount > most) {
                    best = i;
                    most = thought.comeCount;
                }
            }
        }
        return what == 0 ? best : most;
    }

    public int lost(int n) {
        if (!within(n, 1, 40)) {
            return BAD;
        }
        startThought();
        thought.passWeeks(n);
        int asItIs = thought.spelt();
        int set = 0;
        for (int i = 0; i < river.logCount; i++) {
            if (river.logs[i].isAfloat()) {
                startThoughtWithout(i);
                thought.passWeeks(n);
                if (thought.spelt() >= asItIs) {
                    set |= 1 << i;
                }
            }
        }
        return set;
    }

    public int wider(int n, int what) {
        if (!within(n, 1, 40) || !within(what, 0, 1)) {
            return BAD;
        }
        int best = NONE;
        int most = NONE;
        for (int r = 0; r < REACHES; r++) {
            startThought();
            thought.room[r] += 2;
            thought.passWeeks(n);
            if (thought.comeCount > most) {
                best = r;
                most = thought.comeCount;
            }
        }
        return what == 0 ? best : most;
    }

    public int opened(int n) {
        if (!within(n, 1, 60)) {
            return BAD;
        }
        startThought();
        thought.passWeeks(n);
        int asItIs = thought.comeCount;
        startThought();
        for (int r = 0; r < REACHES; r++) {
            thought.boom[r] = 0;
        }
        thought.passWeeks(n);
        return thought.comeCount - asItIs;
    }

    public int rolled(int log, int n) {
        if (!river.hasLog(log) || !within(n, 1, 40)) {
            return BAD;
        }
        if (river.logs[log].reach != OUT) {
            return NO;
        }
        int latest = NONE;
        startThought();
        for (int k = 0; k < n; k++) {
            fork.takeOver(thought);
            fork.logs[log].reach = 0;
            fork.passWeeks(n - k);
            if (fork.logs[log].reach == COME) {
                latest = k;
            }
            thought.passWeek();
        }
        return latest;
    }

    public int looked(int sheet, int log, int what) {
        if (!isSheet(sheet) || !river.hasLog(log) || !within(what, 0, 1)) {
            return BAD;
        }
        if (sheets[sheet].isMissing()) {
            return NOTHING;
        }
        int best = 1;
        int least = apartWithMass(sheets[sheet], log, best);
        for (int mass = 6; mass <= 46; mass += 5) {
            int apart = apartWithMass(sheets[sheet], log, mass);
            if (apart < least) {
                best = mass;
                least = apart;
            }
        }
        return what == 0 ? best : least;
    }

    public int fee() {
        Law law = river.lawFor(FEE);
        return law == null ? river.sawn : law.give(river.sawn, river.week, 0);
    }

    public int fine(int log) {
        if (!river.hasLog(log)) {
            return BAD;
        }
        Log one = river.logs[log];
        Law law = river.lawFor(FINE);
        return law == null ? one.letter : law.give(one.letter, one.mass, 0);
    }

    // ---- texts

    public int feed(int a, int b, int c) {
        Tape tape = reader.tape;
        if (tape.size > TAPE_BYTES - 12) {
            return FULL;
        }
        tape.addBytesOf(a);
        tape.addBytesOf(b);
        tape.addBytesOf(c);
        return tape.size;
    }

    public int trim(int n) {
        if (!within(n, 0, reader.tape.size)) {
            return BAD;
        }
        reader.tape.size = n;
        return n;
    }

    public int text() {
        Law law = reader.readLaw();
        reader.tape.size = 0;
        if (law == null) {
            return -100 - reader.fault;
        }
        return river.addLaw(law) ? river.lawCount - 1 : FULL;
    }

    public int textTold(int text, int what) {
        Law law = river.lawAt(text);
        if (law == null || !within(what, 0, 1)) {
            return BAD;
        }
        return what == 0 ? law.key : law.pieces;
    }

    public int why(int key) {
        if (!within(key, DRIFT, FINE)) {
            return BAD;
        }
        return river.lawNumberFor(key);
    }

    // ---- sheets, slots

    public int sheet(int sheet, int sort, int n) {
        if (!isSheet(sheet) || !within(sort, MISSING, FLOATS) || sort != MISSING && n > PLACES) {
            return BAD;
        }
        if (sort != MISSING && n < 0) {
            return SIZE;
        }
        sheets[sheet].become(sort, sort == MISSING ? 0 : n);
        return sheets[sheet].size;
    }

    public int mark(int sheet, int place, int v) {
        if (!isSheet(sheet)) {
            return BAD;
        }
        Row row = sheets[sheet];
        if (row.isMissing()) {
            return NOTHING;
        }
        if (!row.hasPlace(place)) {
            return INDEX;
        }
        if (row.sort == SHORTS) {
            if (v == NONE) {
                return KIND;
            }
            row.places[place] = (short) v;
            return 1;
        }
        if (v != NONE && !within(v, -FARTHEST_FLOAT, FARTHEST_FLOAT)) {
            return BAD;
        }
        row.places[place] = v;
        return 1;
    }

    public int pour(int sheet) {
        if (!isSheet(sheet)) {
            return BAD;
        }
        if (sheets[sheet].isMissing()) {
            return NOTHING;
        }
        int otherwise = 0;
        for (int r = 0; r < REACHES; r++) {
            if (sheets[sheet].hasNumber(r)) {
                int room = hold(sheets[sheet].places[r], 1, MOST_ROOM);
                if (room != river.room[r]) {
                    otherwise++;
                }
                river.room[r] = room;
            }
        }
        return otherwise;
    }

    public int reads(int sheet) {
        if (!isSheet(sheet)) {
            return BAD;
        }
        Row row = sheets[sheet];
        if (row.isMissing()) {
            return NOTHING;
        }
        for (int k = 0; k < row.size; k++) {
            if (row.hasNumber(k) && (!river.hasLog(k) || river.logs[k].reach != row.places[k])) {
                return k;
            }
        }
        return NONE;
    }

    public int copy(int from, int place, int to, int at, int many) {
        if (!isSheet(from) || !isSheet(to)) {
            return BAD;
        }
        Row source = sheets[from];
        Row target = sheets[to];
        if (source.isMissing() || target.isMissing()) {
            return NOTHING;
        }
        if (source.sort != target.sort) {
            return KIND;
        }
        if (!source.hasPlaces(place, many) || !target.hasPlaces(at, many)) {
            return INDEX;
        }
        System.arraycopy(source.places, place, target.places, at, many);
        return many;
    }

    public int lay(int slot, int thing, int k) {
        if (!isSlot(slot) || !within(thing, EMPTY, A_NUMBER)) {
            return BAD;
        }
        if (thing == A_LOG && !river.hasLog(k) || thing == A_SHEET && !isSheet(k)) {
            return BAD;
        }
        if (thing == A_SHEET && sheets[k].isMissing()) {
            return NOTHING;
        }
        int before = slots[slot].thing;
        slots[slot].thing = thing;
        if (thing == A_LOG) {
            slots[slot].log.takeOver(river.logs[k]);
        } else if (thing == A_SHEET) {
            slots[slot].row.takeOver(sheets[k]);
        } else if (thing == A_NUMBER) {
            slots[slot].number = k;
        }
        return before;
    }

    public int ask(int slot, int kind) {
        if (!isSlot(slot) || !isKind(kind)) {
            return BAD;
        }
        int finding = slots[slot].findingFor(A_LOG);
        if (finding != 0) {
            return finding;
        }
        return slots[slot].log.isOf(kind) ? slots[slot].log.worth() : KIND;
    }

    public int item(int slot, int place) {
        if (!isSlot(slot)) {
            return BAD;
        }
        int finding = slots[slot].findingFor(A_SHEET);
        if (finding != 0) {
            return finding;
        }
        Row row = slots[slot].row;
        if (!row.hasPlace(place)) {
            return INDEX;
        }
        return row.hasNumber(place) ? row.places[place] : KIND;
    }

    public int rest(int slot, int n) {
        if (!isSlot(slot)) {
            return BAD;
        }
        int finding = slots[slot].findingFor(A_NUMBER);
        if (finding != 0) {
            return finding;
        }
        return n == 0 ? NO : slots[slot].number % n;
    }

    // ---- rows, images

    public int tell(int v) {
        if (waitingCount >= MOST_WAITING) {
            return FULL;
        }
        waiting[waitingCount] = v;
        waitingCount++;
        return waitingCount;
    }

    public int check(int n) {
        int told = waitingCount;
        waitingCount = 0;
        if (!within(n, 1, 30)) {
            return BAD;
        }
        if (!hasImage) {
            return NO;
        }
        thought.takeOver(image);
        int due = Math.min(n, MOST_WEEKS - image.week);
        for (int i = 0; i < due; i++) {
            thought.passWeek();
            if (!isWaiting(2 * i, told, thought.comeCount)) {
                return 1 + 2 * i;
            }
            if (!isWaiting(2 * i + 1, told, thought.reachesTogether())) {
                return 2 + 2 * i;
            }
        }
        return told > 2 * due ? 1 + 2 * due : 0;
    }

    public int keep() {
        image.takeOver(river);
        hasImage = true;
        return image.logCount;
    }

    public int back() {
        if (!hasImage) {
            return NO;
        }
        river.takeOver(image);
        return river.logCount;
    }

    public int count(int what) {
        switch (what) {
            case 0: return river.logCount;
            case 1: return river.week;
            case 2: return river.flood;
            case 3: return river.dry;
            case 4: return river.saw;
            case 5: return river.letterCount;
            case 6: return river.lawCount;
            case 7: return waitingCount;
            case 8: return reader.tape.size;
            case 9: return river.z;
            default: return BAD;
        }
    }

    // ---- what the calls share

    private void startThought() {
        thought.takeOver(river);
    }

    private void startThoughtWithout(int log) {
        thought.takeOver(river);
        thought.logs[log].reach = OUT;
    }

    private int apartWithMass(Row row, int log, int mass) {
        startThought();
        thought.logs[log].mass = mass;
        int apart = 0;
        for (int k = 0; k < row.size; k++) {
            if (row.hasNumber(k)) {
                apart += Math.abs(thought.logs[log].reach - row.places[k]);
            }
            thought.passWeek();
        }
        return apart;
    }

    private boolean isWaiting(int place, int told, int v) {
        return place < told && place < MOST_WAITING && waiting[place] == v;
    }

    private static boolean within(int v, int low, int high) {
        return v >= low && v <= high;
    }

    private static int hold(int v, int low, int high) {
        return Math.max(low, Math.min(high, v));
    }

    private static boolean isKind(int v) {
        return within(v, PLAIN, SUNK);
    }

    private static boolean isLetter(int v) {
        return within(v, 0, 25);
    }

    private static boolean isMass(int v) {
        return within(v, 1, 50);
    }

    private static boolean isReach(int v) {
        return v >= 0 && v < REACHES;
    }

    private static boolean isSheet(int v) {
        return within(v, 0, SHEETS - 1);
    }

    private static boolean isSlot(int v) {
        return within(v, 0, SLOTS - 1);
    }

    /** One log, on the river or not. */
    private static final class Log {
        int kind = PLAIN;
        int letter = 0;
        int mass = 1;
        int reach = 0;
        int came = 0;

        void takeOver(Log other) {
            kind = other.kind;
            letter = other.letter;
            mass = other.mass;
            reach = other.reach;
            came = other.came;
        }

        boolean isAfloat() {
            return isReach(reach);
        }

        boolean isOf(int wanted) {
            int at = kind;
            for (int i = 0; i < ABOVE.length && isKind(at); i++) {
                if (at == wanted) {
                    return true;
                }
                at = ABOVE[at];
            }
            return false;
        }

        /** How far a flood takes it, told how far it would take a plain log of its mass. */
        int driftFrom(int plain, int flood) {
            switch (kind) {
                case HEAVY: return plain / 2;
                case KNOTTED: return flood < 5 ? 0 : plain / 2;
                case SPLIT: return plain + 1;
                case BRANDED: return Math.min(3, plain + 1);
                case SUNK: return 0;
                default: return plain;
            }
        }

        int claimedBy(int saw) {
            switch (kind) {
                case KNOTTED: return saw / 2;
                case SPLIT: return saw + 10;
                case BRANDED: return 0;
                case SUNK: return 0;
                default: return saw;
            }
        }

        int worth() {
            switch (kind) {
                case HEAVY: return mass + 7;
                case KNOTTED: return 2 * (mass + 7);
                case SPLIT: return 99 - mass;
                case BRANDED: return 99 - mass - 5;
                case SUNK: return 1;
                default: return mass;
            }
        }
    }

    /** All that an image keeps: the reaches, the logs, the word, the laws, the lot. */
    private static final class River {
        final Log[] logs = new Log[MOST_LOGS];
        final int[] room = new int[REACHES];
        final int[] boom = new int[REACHES];
        final int[] held = new int[REACHES];
        final int[] letters = new int[MOST_LETTERS];
        final Law[] laws = new Law[MOST_LAWS];
        int logCount = 0;
        int letterCount = 0;
        int lawCount = 0;
        int flood = FIRST_FLOOD;
        int saw = 0;
        int dry = 0;
        int sawn = 0;
        int comeCount = 0;
        int week = 0;
        int z = 1;

        River() {
            for (int i = 0; i < MOST_LOGS; i++) {
                logs[i] = new Log();
            }
            for (int r = 0; r < REACHES; r++) {
                room[r] = FIRST_ROOM;
            }
        }

        void takeOver(River other) {
            logCount = other.logCount;
            letterCount = other.letterCount;
            lawCount = other.lawCount;
            flood = other.flood;
            saw = other.saw;
            dry = other.dry;
            sawn = other.sawn;
            comeCount = other.comeCount;
            week = other.week;
            z = other.z;
            System.arraycopy(other.room, 0, room, 0, REACHES);
            System.arraycopy(other.boom, 0, boom, 0, REACHES);
            System.arraycopy(other.letters, 0, letters, 0, MOST_LETTERS);
            for (int i = 0; i < MOST_LOGS; i++) {
                logs[i].takeOver(other.logs[i]);
            }
            for (int i = 0; i < MOST_LAWS; i++) {
                laws[i] = other.laws[i];
            }
        }

        boolean hasLog(int log) {
            return within(log, 0, logCount - 1) && log < MOST_LOGS;
        }

        boolean addLog(int kind, int letter, int mass) {
            if (logCount >= MOST_LOGS) {
                return false;
            }
            Log one = logs[logCount];
            one.kind = kind;
            one.letter = letter;
            one.mass = mass;
            one.reach = 0;
            one.came = 0;
            logCount++;
            return true;
        }

        void drawLog() {
            int kind = draw() % 6;
            int letter = draw() % 26;
            int mass = 1 + draw() % 50;
            addLog(kind, letter, mass);
        }

        boolean addLetter(int letter) {
            if (letterCount >= MOST_LETTERS) {
                return false;
            }
            letters[letterCount] = letter;
            letterCount++;
            return true;
        }

        boolean addLaw(Law law) {
            if (lawCount >= MOST_LAWS) {
                return false;
            }
            laws[lawCount] = law;
            lawCount++;
            return true;
        }

        /** The law of a number, or null. */
        Law lawAt(int number) {
            return number >= 0 && number < lawCount && number < MOST_LAWS ? laws[number] : null;
        }

        int lawNumberFor(int key) {
            for (int i = lawCount - 1; i >= 0; i--) {
                Law law = lawAt(i);
                if (law != null && law.key == key) {
                    return i;
                }
            }
            return NONE;
        }

        /** The law that counts for a key, or null. */
        Law lawFor(int key) {
            return lawAt(lawNumberFor(key));
        }

        int draw() {
            z = z * 1103515245 + 12345;
            return z >>> 8;
        }

        int driftOf(Log log, Law law) {
            int plain = law == null
                ? Math.max(0, flood - log.mass / 10)
                : hold(law.give(flood, log.mass, log.reach), 0, REACHES);
            return log.driftFrom(plain, flood);
        }

        void passWeeks(int n) {
            for (int i = 0; i < n; i++) {
                passWeek();
            }
        }

        void passWeek() {
            flood = Math.max(0, draw() % 10 - dry);
            countHeld();
            Law law = lawFor(DRIFT);
            for (int r = REACHES - 1; r >= 0; r--) {
                if (held[r] > 0) {
                    carryFrom(r, law);
                }
            }
            if (saw > 0 && logCount > 0) {
                sawByLot(draw() % logCount);
            }
            week++;
        }

        void countHeld() {
            for (int r = 0; r < REACHES; r++) {
                held[r] = 0;
            }
            for (int i = 0; i < logCount; i++) {
                if (logs[i].isAfloat()) {
                    held[logs[i].reach]++;
                }
            }
        }

        /** Reaches are gone through from the last one up, so none is met twice in a week. */
        void carryFrom(int reach, Law law) {
            for (int i = 0; i < logCount; i++) {
                if (logs[i].reach == reach) {
                    carry(logs[i], driftOf(logs[i], law));
                }
            }
        }

        void carry(Log log, int drift) {
            for (int i = 0; i < drift && mayLeave(log.reach); i++) {
                held[log.reach]--;
                log.reach++;
                if (log.reach == COME) {
                    comeCount++;
                    log.came = comeCount;
                } else {
                    held[log.reach]++;
                }
            }
        }

        /** Not for one that has come or is out, and not out of a boom or into a full reach. */
        boolean mayLeave(int reach) {
            if (!isReach(reach) || boom[reach] != 0) {
                return false;
            }
            int next = reach + 1;
            return next == COME || held[next] < room[next];
        }

        void sawByLot(int log) {
            if (hasLog(log) && logs[log].isAfloat() && draw() % 100 < logs[log].claimedBy(saw)) {
                logs[log].reach = OUT;
                sawn++;
            }
        }

        int letterRead(int k) {
            for (int i = 0; i < logCount; i++) {
                if (logs[i].came == k + 1) {
                    return logs[i].letter;
                }
            }
            return NONE;
        }

        int spelt() {
            int used = 0;
            for (int k = 0; k < letterCount; k++) {
                used |= unusedWith(letters[k], used);
            }
            return Integer.bitCount(used);
        }

        /** The bit of a log that has come with this letter and is not used yet, or 0. */
        int unusedWith(int letter, int used) {
            for (int i = 0; i < logCount; i++) {
                int bit = 1 << i;
                if (logs[i].reach == COME && logs[i].letter == letter && (used & bit) == 0) {
                    return bit;
                }
            }
            return 0;
        }

        int jammed() {
            countHeld();
            int standing = 0;
            for (int r = 0; r < REACHES; r++) {
                if (held[r] >= room[r]) {
                    standing += held[r];
                }
            }
            return standing;
        }

        int afloat() {
            int set = 0;
            for (int i = 0; i < logCount; i++) {
                if (logs[i].isAfloat()) {
                    set |= 1 << i;
                }
            }
            return set;
        }

        int reachesTogether() {
            int sum = 0;
            for (int i = 0; i < logCount; i++) {
                sum += logs[i].reach;
            }
            return sum;
        }
    }

    /** The bytes that are not read yet. */
    private static final class Tape {
        final byte[] bytes = new byte[TAPE_BYTES];
        int size = 0;

        void addBytesOf(int v) {
            for (int shift = 24; shift >= 0 && size < TAPE_BYTES; shift -= 8) {
                bytes[size] = (byte) (v >>> shift);
                size++;
            }
        }

        /** The byte at a place; a blank, where there is none. */
        int byteAt(int place) {
            return place >= 0 && place < size && place < TAPE_BYTES ? bytes[place] : ' ';
        }
    }

    /** A text that has been read: its pieces and signs in the order in which they are worked out. */
    private static final class Law {
        final int key;
        final int pieces;
        final int[] code;
        /** Made once, because a law is worked out for each log in each week. */
        final int[] stack;

        Law(int key, int pieces, int[] code, int size) {
            this.key = key;
            this.pieces = pieces;
            int length = hold(size, 0, code.length);
            this.code = new int[length];
            System.arraycopy(code, 0, this.code, 0, length);
            this.stack = new int[Math.max(1, length)];
        }

        /** What it gives, told what its first, second and third name are. */
        int give(int first, int second, int third) {
            int top = 0;
            for (int i = 0; i < code.length; i++) {
                int c = code[i];
                if (c < SIGNS_FROM && top < stack.length) {
                    stack[top] = valueOf(c, first, second, third);
                    top++;
                } else if (c == SIGNS_FROM + '!' && top > 0) {
                    stack[top - 1] = stack[top - 1] == 0 ? 1 : 0;
                } else if (top > 1) {
                    top--;
                    stack[top - 1] = joined(c - SIGNS_FROM, stack[top - 1], stack[top]);
                }
            }
            return stack[0];
        }

        static int valueOf(int c, int first, int second, int third) {
            switch (c) {
                case NAMES_FROM: return first;
                case NAMES_FROM + 1: return second;
                case NAMES_FROM + 2: return third;
                default: return c;
            }
        }

        static int joined(int sign, int a, int b) {
            switch (sign) {
                case '|': return a != 0 || b != 0 ? 1 : 0;
                case '&': return a != 0 && b != 0 ? 1 : 0;
                case '<': return a < b ? 1 : 0;
                case '=': return a == b ? 1 : 0;
                case '>': return a > b ? 1 : 0;
                case '+': return a + b;
                case '-': return a - b;
                case '*': return a * b;
                case '/': return b == 0 ? 0 : a / b;
                default: return 0;
            }
        }
    }

    /**
     * Reads a tape word by word. Signs that wait for their right side stand in a row of their own
     * instead of open calls, so the depth of a text costs no depth of calls.
     */
    private static final class Reader {
        final Tape tape = new Tape();
        final int[] code = new int[TAPE_BYTES];
        final int[] open = new int[TAPE_BYTES];
        int fault = 0;
        int codeSize = 0;
        int openSize = 0;
        int key = DRIFT;
        int pieces = 0;
        int brackets = 0;
        int bangs = 0;
        /** One bit for each depth of brackets: a test stands there since the latest & or |. */
        int tested = 0;
        boolean wantsPiece = true;
        /** The word or sign at hand: its first byte and the place behind its last. */
        int start = 0;
        int end = 0;

        /** The law on the tape, or null: then fault is the place of its fault. */
        Law readLaw() {
            begin();
            if (!nextWord() || !takesKey()) {
                fault = start;
                return null;
            }
            for (int i = 0; i < TAPE_BYTES && nextWord(); i++) {
                if (!goesOn()) {
                    fault = start;
                    return null;
                }
                if (!wantsPiece) {
                    closeBangs();
                }
            }
            if (wantsPiece || brackets > 0) {
                fault = tape.size;
                return null;
            }
            closeDownTo(1);
            return new Law(key, pieces, code, codeSize);
        }

        void begin() {
            codeSize = 0;
            openSize = 0;
            pieces = 0;
            brackets = 0;
            bangs = 0;
            tested = 0;
            wantsPiece = true;
            start = 0;
            end = 0;
        }

        /** Goes to the next word or sign; at the end of the tape there is none, and start is there. */
        boolean nextWord() {
            start = end;
            while (start < tape.size && tape.byteAt(start) == ' ') {
                start++;
            }
            end = start;
            if (start >= tape.size) {
                return false;
            }
            int sort = sortOf(tape.byteAt(start));
            end++;
            while (sort != 0 && end < tape.size && sortOf(tape.byteAt(end)) == sort) {
                end++;
            }
            return true;
        }

        /** 1 of letters, 2 of digits, 0 of all that are no part of a word. */
        static int sortOf(int c) {
            if (within(c, 'a', 'z')) {
                return 1;
            }
            return within(c, '0', '9') ? 2 : 0;
        }

        boolean takesKey() {
            if (isWord("drift")) {
                key = DRIFT;
            } else if (isWord("fee")) {
                key = FEE;
            } else if (isWord("fine")) {
                key = FINE;
            } else {
                return false;
            }
            return true;
        }

        boolean isWord(String wanted) {
            if (end - start != wanted.length()) {
                return false;
            }
            for (int i = 0; i < wanted.length(); i++) {
                if (tape.byteAt(start + i) != wanted.charAt(i)) {
                    return false;
                }
            }
            return true;
        }

        boolean goesOn() {
            int first = tape.byteAt(start);
            if (sortOf(first) != 0 && sortOf(tape.byteAt(start - 1)) != 0) {
                return false;
            }
            return wantsPiece ? takesPiece(first) : takesSign(first);
        }

        boolean takesPiece(int first) {
            if (sortOf(first) == 2) {
                return takesNumber();
            }
            if (sortOf(first) == 1) {
                return takesName(first);
            }
            if (first == '(' && brackets < DEEPEST) {
                push(first);
                brackets++;
                tested &= ~(1 << brackets);
                return true;
            }
            if (first == '!' && bangs < DEEPEST) {
                push(first);
                bangs++;
                return true;
            }
            return false;
        }

        boolean takesNumber() {
            if (end - start > MOST_DIGITS) {
                return false;
            }
            int value = 0;
            for (int i = start; i < end; i++) {
                value = value * 10 + tape.byteAt(i) - '0';
            }
            addPiece(value);
            return true;
        }

        boolean takesName(int first) {
            int number = namesOf(key).indexOf((char) first);
            if (end - start != 1 || number < 0) {
                return false;
            }
            addPiece(NAMES_FROM + number);
            return true;
        }

        static String namesOf(int key) {
            switch (key) {
                case DRIFT: return "fmr";
                case FEE: return "sw";
                default: return "lm";
            }
        }

        boolean takesSign(int first) {
            if (first == ')') {
                return closesBracket();
            }
            int level = levelOf(first);
            boolean isTest = level == 3;
            if (level == 0 || isTest && (tested & 1 << brackets) != 0) {
                return false;
            }
            closeDownTo(level);
            push(first);
            wantsPiece = true;
            if (isTest) {
                tested |= 1 << brackets;
            } else if (level < 3) {
                tested &= ~(1 << brackets);
            }
            return true;
        }

        /** How tight a sign between two pieces binds, from 1 on; 0 of all that are none. */
        static int levelOf(int sign) {
            switch (sign) {
                case '|': return 1;
                case '&': return 2;
                case '<': case '=': case '>': return 3;
                case '+': case '-': return 4;
                case '*': case '/': return 5;
                default: return 0;
            }
        }

        boolean closesBracket() {
            if (brackets == 0) {
                return false;
            }
            closeDownTo(1);
            pop();
            brackets--;
            return true;
        }

        void addPiece(int c) {
            addCode(c);
            pieces++;
            wantsPiece = false;
        }

        /** Behind a piece that is whole: each ! right ahead of it has what it turns round. */
        void closeBangs() {
            for (int i = openSize; i > 0 && topSign() == '!'; i--) {
                addCode(SIGNS_FROM + pop());
                bangs--;
            }
        }

        /** Signs that bind at least so tight have their right side; a bracket ends the row. */
        void closeDownTo(int level) {
            for (int i = openSize; i > 0 && levelOf(topSign()) >= level; i--) {
                addCode(SIGNS_FROM + pop());
            }
        }

        int topSign() {
            return openSize > 0 && openSize <= TAPE_BYTES ? open[openSize - 1] : 0;
        }

        int pop() {
            if (openSize <= 0 || openSize > TAPE_BYTES) {
                return 0;
            }
            openSize--;
            return open[openSize];
        }

        void push(int sign) {
            if (openSize < TAPE_BYTES) {
                open[openSize] = sign;
                openSize++;
            }
        }

        void addCode(int c) {
            if (codeSize < TAPE_BYTES) {
                code[codeSize] = c;
                codeSize++;
            }
        }
    }

    /** A sheet. NONE stands for no number, which no row can hold otherwise. */
    private static final class Row {
        final int[] places = new int[PLACES];
        int sort = MISSING;
        int size = 0;

        void become(int newSort, int newSize) {
            sort = newSort;
            size = newSize;
            for (int i = 0; i < PLACES; i++) {
                places[i] = 0;
            }
        }

        void takeOver(Row other) {
            sort = other.sort;
            size = other.size;
            System.arraycopy(other.places, 0, places, 0, PLACES);
        }

        boolean isMissing() {
            return sort == MISSING;
        }

        boolean hasPlace(int place) {
            return place >= 0 && place < size && place < PLACES;
        }

        boolean hasNumber(int place) {
            return hasPlace(place) && places[place] != NONE;
        }

        /** From a place on so many; none may stand right behind the last one, too. */
        boolean hasPlaces(int place, int many) {
            return within(place, 0, size) && within(many, 0, size - place);
        }
    }

    /** A slot: what it holds is told by thing; what it held before is left to lie. */
    private static final class Slot {
        final Log log = new Log();
        final Row row = new Row();
        int thing = EMPTY;
        int number = 0;

        /** Why it can't be taken for that thing; 0, if it can. */
        int findingFor(int wanted) {
            if (thing == EMPTY) {
                return NOTHING;
            }
            return thing == wanted ? 0 : KIND;
        }
    }
}
