import java.util.Arrays;

/** A laundry of things that swell and are pressed flat, with what may be asked of it. */
public final class IronedFlat {
    public static final int BAD = -1, FULL = -2, NONE = -3, STATE = -4;

    private static final int NOTHING = -11, OUTSIDE = -12, OTHER_SORT = -13, BELOW_ZERO = -14, PARTED_BY_ZERO = -15;
    private static final int NO_ROW = -9, FAULTY = -100;

    private static final int THINGS = 6, BOARDS = 6, WASHES = 16, MAX_BULK = 99, MAX_CREASE = 9, MAX_WEIGHT = 9;
    private static final int COPPER = 1, COAT = 2, HAT = 3, LINEN = 4, FIELD = 5;
    // What a thing's WILL may be; 1 is to leave, by which nothing is done.
    private static final int PRESS = 0, FOLD = 2;
    private static final int FAT_BULK = 60;

    private static final int TAPE = 200, RULES = 8, OPEN = 3, REPORTS = 6, PLAN = 4, ROW_WIDTH = 3;
    private static final int SHEETS = 4, SHELVES = 4, ITEMS = 40, BODIES = 30, MAX_GO = 20;
    private static final int BYTES = 0, SHORTS = 1, BOOLEANS = 4;

    // By KIND, the KIND that stands above it.
    private static final int[] ABOVE = {-1, 0, 0, 2, 0, 4};

    private final Laundry now = new Laundry();
    private final Laundry kept = new Laundry();
    private boolean anyKept = false;
    private final Load trial = new Load();
    private final Search search = new Search();
    private final RuleReader reader = new RuleReader();
    private final int[] rows = new int[PLAN * ROW_WIDTH];
    private int rowCount = 0;
    private final SheetRow[] sheets = new SheetRow[SHEETS];
    private final int[] shelfThing = new int[SHELVES];
    private final SheetRow[] shelfRow = new SheetRow[SHELVES];
    private final Actor actor = new Actor();

    public IronedFlat() {
        Arrays.fill(shelfThing, -1);
    }

    // ---- the laundry, things

    public int thing(int kind, int bulk, int crease, int board) {
        if (!within(kind, COPPER, FIELD) || !within(bulk, 0, MAX_BULK) || !within(crease, 0, MAX_CREASE) || !within(board, 0, BOARDS - 1)) {
            return BAD;
        }
        Load load = now.load;
        if (load.count >= THINGS) {
            return FULL;
        }
        int k = load.count;
        load.count = k + 1;
        load.kind[k] = kind;
        load.bulk[k] = bulk;
        load.crease[k] = crease;
        load.board[k] = board;
        load.setFlat(k, false);
        return k;
    }

    public int thingOf(int k, int what) {
        if (!isThing(k)) {
            return BAD;
        }
        Load load = now.load;
        switch (what) {
            case 0: return load.kind[k];
            case 1: return load.bulk[k];
            case 2: return load.crease[k];
            case 3: return load.board[k];
            case 4: return load.isFlat(k) ? 1 : 0;
            case 5: return now.swells(load, k, now.sighNow(load));
            case 6: return needing(load.kind[k], load.bulk[k], load.crease[k]);
            case 7: return now.pays(load, k, now.steamNow(load));
            case 8: return now.mayBePressed(load, k, now.steamNow(load)) ? 1 : 0;
            case 9: return now.will(load, k, now.steamNow(load));
            default: return BAD;
        }
    }

    public int change(int k, int what, int v) {
        if (!isThing(k)) {
            return BAD;
        }
        Load load = now.load;
        switch (what) {
            case 1: return putWithin(load.bulk, k, v, MAX_BULK);
            case 2: return putWithin(load.crease, k, v, MAX_CREASE);
            case 3: return putWithin(load.board, k, v, BOARDS - 1);
            case 4:
                if (!within(v, 0, 1)) {
                    return BAD;
                }
                int was = load.isFlat(k) ? 1 : 0;
                load.setFlat(k, v == 1);
                return was;
            default: return BAD;
        }
    }

    public int remake(int k, int kind) {
        if (!isThing(k) || !within(kind, COPPER, FIELD)) {
            return BAD;
        }
        return putWithin(now.load.kind, k, kind, FIELD);
    }

    public int iron(int wash, int v) {
        return putWithin(now.iron, wash, v, 15);
    }

    public int board(int f, int what, int v) {
        switch (what) {
            case 0: return putWithin(now.weight, f, v, MAX_WEIGHT);
            case 1: return putWithin(now.rope, f, v, MAX_WEIGHT);
            default: return BAD;
        }
    }

    public int boardOf(int f, int what) {
        if (!within(f, 0, BOARDS - 1)) {
            return BAD;
        }
        switch (what) {
            case 0: return now.weight[f];
            case 1: return now.rope[f];
            default: return BAD;
        }
    }

    public int ends(int v) {
        if (!within(v, 1, WASHES)) {
            return BAD;
        }
        if (v < now.load.wash) {
            return STATE;
        }
        int was = now.end;
        now.end = v;
        return was;
    }

    public int anew() {
        int was = now.load.wash;
        now.load.wash = 0;
        now.load.flat = 0;
        now.score = 0;
        return was;
    }

    public int state(int what) {
        switch (what) {
            case 0: return now.load.wash;
            case 1: return now.end;
            case 2: return now.score;
            case 3: return now.isOver(now.load) ? 1 : 0;
            case 4: return now.load.flat;
            case 5: return now.ironAt(now.load.wash);
            case 6: return now.load.bulkOfAll();
            default: return BAD;
        }
    }

    // ---- the rules

    public int feed(long eight, int n) {
        if (!within(n, 1, 8)) {
            return BAD;
        }
        return reader.take(eight, n);
    }

    public int rules() {
        reader.begin();
        boolean stands = true;
        for (int i = 0; i <= RULES && stands && !reader.isAtEnd(); i++) {
            stands = reader.readRule();
        }
        reader.useUp();
        if (!stands) {
            return FAULTY - reader.place();
        }
        now.takeRules(reader.made, reader.count);
        return now.ruleCount;
    }

    // ---- washes

    public int wash() {
        if (now.isOver(now.load)) {
            return STATE;
        }
        return goByNow(now.actOfRest(now.load));
    }

    public int on(int n) {
        if (!within(n, 0, WASHES)) {
            return BAD;
        }
        trial.copy(now.load);
        return now.goRest(trial, n);
    }

    public int when(int k) {
        if (!isThing(k)) {
            return BAD;
        }
        trial.copy(now.load);
        if (trial.isFlat(k)) {
            return NONE;
        }
        for (int i = 0; i < WASHES && !now.isOver(trial); i++) {
            now.goRest(trial, 1);
            if (trial.isFlat(k)) {
                return trial.wash - 1;
            }
        }
        return NONE;
    }

    public int creaseFor(int k) {
        if (!isThing(k)) {
            return BAD;
        }
        int best = 0;
        int most = -1;
        for (int crease = 0; crease <= MAX_CREASE; crease++) {
            trial.copy(now.load);
            trial.crease[k] = crease;
            int worth = now.goRest(trial, WASHES);
            if (worth > most) {
                most = worth;
                best = crease;
            }
        }
        return best;
    }

    public int boardFor(int k) {
        if (!isThing(k)) {
            return BAD;
        }
        int best = 0;
        int most = -1;
        for (int board = 0; board < BOARDS; board++) {
            trial.copy(now.load);
            trial.board[k] = board;
            int worth = now.goRest(trial, WASHES);
            if (worth > most) {
                most = worth;
                best = board;
            }
        }
        return best;
    }

    // ---- which is fat when, what steam it takes, what is left, piles

    public int fat(int k) {
        if (!isThing(k)) {
            return BAD;
        }
        trial.copy(now.load);
        for (int i = 0; i < WASHES && !now.isOver(trial) && trial.bulk[k] < FAT_BULK; i++) {
            now.goRest(trial, 1);
        }
        return trial.bulk[k] >= FAT_BULK ? trial.wash : NONE;
    }

    public int least(int k) {
        if (!isThing(k)) {
            return BAD;
        }
        for (int steam = 0; steam <= 3; steam++) {
            if (now.pays(now.load, k, steam) > 0) {
                return steam;
            }
        }
        return NONE;
    }

    public int left(int n, int what) {
        if (!within(n, 0, WASHES) || !within(what, 0, 1)) {
            return BAD;
        }
        trial.copy(now.load);
        now.goRest(trial, n);
        return what == 0 ? trial.bulkOfAll() : trial.flat;
    }

    public int piles(int what) {
        if (what == -1) {
            return howManyPiles();
        }
        return isThing(what) ? now.load.pileOf(what) : BAD;
    }

    private int howManyPiles() {
        int found = 0;
        int seen = 0;
        for (int k = 0; k < now.load.count; k++) {
            int pile = now.load.pileOf(k);
            if (pile != 0 && (pile & seen) == 0) {
                found++;
                seen |= pile;
            }
        }
        return found;
    }

    // ---- plans

    public int best(int n) {
        if (!within(n, 0, PLAN)) {
            return BAD;
        }
        search.tryAll(now, n, 0);
        return search.most;
    }

    public int ith(int n, int i) {
        if (!within(n, 0, PLAN) || !within(i, 0, PLAN - 1)) {
            return BAD;
        }
        search.tryAll(now, n, 0);
        return i < search.length ? search.first[i] : NONE;
    }

    public int ways(int n) {
        if (!within(n, 0, PLAN)) {
            return BAD;
        }
        search.tryAll(now, n, 0);
        return search.bestPlans;
    }

    public int note(int n, int things) {
        if (!within(n, 0, PLAN) || !isSetOfThings(things)) {
            return BAD;
        }
        search.tryAll(now, n, things);
        return search.fewest;
    }

    public int bars(int n, int things) {
        if (!within(n, 0, PLAN) || !isSetOfThings(things)) {
            return BAD;
        }
        search.tryAll(now, n, things);
        int barred = things & ~search.everFlat;
        return barred == 0 ? NONE : Integer.numberOfTrailingZeros(barred);
    }

    // ---- a game, strangers, lots

    public int game(int n) {
        if (!within(n, 1, PLAN)) {
            return BAD;
        }
        return search.gameOf(now, n);
    }

    public int play(int n) {
        if (!within(n, 1, PLAN)) {
            return BAD;
        }
        if (now.isOver(now.load)) {
            return NONE;
        }
        search.gameOf(now, n);
        return search.opening;
    }

    public int report(int k, int asked, int least, int most) {
        if (!within(k, 0, WASHES - 1) || !within(asked, 0, 1)) {
            return BAD;
        }
        int highest = asked == 0 ? MAX_BULK : WASHES;
        if (!within(least, 0, highest) || !within(most, least, highest)) {
            return BAD;
        }
        return now.reports.add(k, asked, least, most);
    }

    public int forget() {
        int was = now.reports.count;
        now.reports.count = 0;
        return was;
    }

    public int lone(int what) {
        if (!within(what, 0, 3)) {
            return BAD;
        }
        Reports reports = now.reports;
        reports.weighAll(now.iron);
        if (what == 0) {
            return reports.fitting;
        }
        if (reports.fitting == 0) {
            return NONE;
        }
        switch (what) {
            case 1: return reports.firstKind;
            case 2: return reports.firstCrease;
            default: return reports.firstBulk;
        }
    }

    public int liar() {
        Reports reports = now.reports;
        reports.weighAll(now.iron);
        if (reports.fitting > 0 || reports.soleWrong == 0) {
            return NONE;
        }
        return Integer.numberOfTrailingZeros(reports.soleWrong);
    }

    public int seed(int v) {
        int was = now.z;
        now.z = v;
        return was;
    }

    public int lot() {
        if (now.isOver(now.load)) {
            return STATE;
        }
        now.z = nextLot(now.z);
        return goByNow(drawn(now.z, now.load.count));
    }

    public int times(int n, int v) {
        if (!within(n, 1, 40) || !within(v, 0, 999)) {
            return BAD;
        }
        int z = now.z;
        int reached = 0;
        for (int i = 0; i < n; i++) {
            trial.copy(now.load);
            int worth = 0;
            for (int j = 0; j < WASHES && !now.isOver(trial); j++) {
                z = nextLot(z);
                worth += now.goBy(trial, drawn(z, trial.count));
            }
            if (worth >= v) {
                reached++;
            }
        }
        return reached;
    }

    // ---- rows

    public int prove(int n) {
        if (!within(n, 0, PLAN)) {
            return BAD;
        }
        search.tryAll(now, n, 0);
        trial.copy(now.load);
        rowCount = search.length;
        for (int i = 0; i < rowCount; i++) {
            rows[i * ROW_WIDTH] = search.first[i];
            rows[i * ROW_WIDTH + 1] = now.goBy(trial, search.first[i]);
            rows[i * ROW_WIDTH + 2] = trial.flat;
        }
        return rowCount;
    }

    public int row(int k, int what) {
        return isCell(k, what) ? rows[k * ROW_WIDTH + what] : NO_ROW;
    }

    public int alterRow(int k, int what, int v) {
        if (!isCell(k, what)) {
            return NO_ROW;
        }
        int was = rows[k * ROW_WIDTH + what];
        rows[k * ROW_WIDTH + what] = v;
        return was;
    }

    public int judge() {
        trial.copy(now.load);
        for (int i = 0; i < rowCount; i++) {
            if (!isRowRight(i)) {
                return i + 1;
            }
        }
        return 0;
    }

    private boolean isRowRight(int i) {
        int told = rows[i * ROW_WIDTH];
        if (now.isOver(trial) || !within(told, 0, trial.count)) {
            return false;
        }
        int worth = now.goBy(trial, told);
        return worth == rows[i * ROW_WIDTH + 1] && trial.flat == rows[i * ROW_WIDTH + 2];
    }

    private boolean isCell(int k, int what) {
        return within(k, 0, rowCount - 1) && within(what, 0, ROW_WIDTH - 1);
    }

    // ---- the host

    public int sheet(int sheet, int sort, int n) {
        if (!within(sheet, 0, SHEETS - 1) || !within(sort, -1, BOOLEANS)) {
            return BAD;
        }
        if (sort == -1) {
            sheets[sheet] = null;
            return 1;
        }
        if (n > ITEMS) {
            return BAD;
        }
        if (n < 0) {
            return BELOW_ZERO;
        }
        sheets[sheet] = new SheetRow(sort, n);
        return 1;
    }

    public int write(int sheet, int i, int v) {
        if (!within(sheet, 0, SHEETS - 1)) {
            return BAD;
        }
        SheetRow row = sheets[sheet];
        if (row == null) {
            return NOTHING;
        }
        if (!row.has(i)) {
            return OUTSIDE;
        }
        row.put(i, v);
        return 1;
    }

    public int item(int sheet, int sort, int i) {
        if (!within(sheet, 0, SHEETS - 1) || !within(sort, BYTES, BOOLEANS)) {
            return BAD;
        }
        SheetRow row = sheets[sheet];
        if (row == null) {
            return NOTHING;
        }
        if (row.sort != sort) {
            return OTHER_SORT;
        }
        return row.has(i) ? row.items[i] : OUTSIDE;
    }

    public int goAll(int sheet, int i, int n) {
        int refused = refusedAsActs(sheet, n);
        if (refused != 0) {
            return refused;
        }
        SheetRow row = sheets[sheet];
        int worth = 0;
        for (int j = 0; j < n; j++) {
            if (row == null || !row.has(i + j)) {
                return OUTSIDE;
            }
            int told = row.items[i + j];
            if (within(told, 0, now.load.count) && !now.isOver(now.load)) {
                worth += goByNow(told);
            }
        }
        return worth;
    }

    public int wouldBe(int sheet, int i, int n) {
        int refused = refusedAsActs(sheet, n);
        if (refused != 0) {
            return refused;
        }
        SheetRow row = sheets[sheet];
        trial.copy(now.load);
        int worth = 0;
        for (int j = 0; j < n; j++) {
            if (row == null || !row.has(i + j)) {
                return OUTSIDE;
            }
            int told = row.items[i + j];
            if (!within(told, 0, trial.count) || now.isOver(trial)) {
                return STATE;
            }
            worth += now.goBy(trial, told);
        }
        return worth;
    }

    /** Why n items of a sheet can't be taken for acts, whatever they are; 0 if they can. */
    private int refusedAsActs(int sheet, int n) {
        if (!within(sheet, 0, SHEETS - 1) || !within(n, 0, MAX_GO)) {
            return BAD;
        }
        SheetRow row = sheets[sheet];
        if (row == null) {
            return NOTHING;
        }
        return row.sort == BYTES ? 0 : OTHER_SORT;
    }

    public int shelf(int shelf, int what, int n) {
        if (!within(shelf, 0, SHELVES - 1) || !within(what, 0, 2)) {
            return BAD;
        }
        if (what == 0 && !isThing(n) || what == 1 && !within(n, 0, SHEETS - 1)) {
            return BAD;
        }
        shelfThing[shelf] = what == 0 ? n : -1;
        shelfRow[shelf] = what == 1 ? sheets[n] : null;
        return 1;
    }

    public int taken(int shelf, int as) {
        if (!within(shelf, 0, SHELVES - 1) || !within(as, 0, FIELD) && !within(as, 10, 10 + BOOLEANS)) {
            return BAD;
        }
        SheetRow row = shelfRow[shelf];
        if (row != null) {
            return row.sort == as - 10 ? row.items.length : OTHER_SORT;
        }
        int k = shelfThing[shelf];
        if (!isThing(k)) {
            return NOTHING;
        }
        return as <= FIELD && isOrIsUnder(now.load.kind[k], as) ? k : OTHER_SORT;
    }

    public int act(int shelf, int act, int x) {
        actor.forgetBodies();
        if (!within(shelf, 0, SHELVES - 1) || !within(act, 0, 3)) {
            return 0;
        }
        int k = shelfThing[shelf];
        if (!isThing(k)) {
            return 0;
        }
        actor.become(now.load.kind[k], k, now.load.board[k]);
        return actor.doAct(act, x);
    }

    public int trace(int i) {
        return within(i, 0, actor.ran - 1) ? actor.bodies[i] : NONE;
    }

    public int many(int what) {
        switch (what) {
            case 0: return now.load.count;
            case 1: return now.ruleCount;
            case 2: return Integer.bitCount(now.load.flat);
            case 3: return now.reports.count;
            case 4: return rowCount;
            case 5: return reader.size;
            case 6: return actor.ran;
            default: return BAD;
        }
    }

    // ---- kept

    public int keep() {
        kept.copy(now);
        anyKept = true;
        return 1;
    }

    public int again() {
        if (!anyKept) {
            return NONE;
        }
        now.copy(kept);
        return now.load.count;
    }

    // ---- what several of these use

    private int goByNow(int told) {
        int worth = now.goBy(now.load, told);
        now.score += worth;
        return worth;
    }

    private boolean isThing(int k) {
        return within(k, 0, now.load.count - 1);
    }

    private boolean isSetOfThings(int things) {
        return within(things, 0, (1 << now.load.count) - 1);
    }

    private static boolean within(int v, int least, int most) {
        return v >= least && v <= most;
    }

    private static int putWithin(int[] row, int i, int v, int most) {
        if (!within(i, 0, row.length - 1) || !within(v, 0, most)) {
            return BAD;
        }
        int was = row[i];
        row[i] = v;
        return was;
    }

    private static int nextLot(int z) {
        return z * 1103515245 + 12345;
    }

    private static int drawn(int z, int things) {
        return things < 0 ? 0 : (z >>> 16) % (things + 1);
    }

    private static boolean isOrIsUnder(int kind, int above) {
        int at = kind;
        for (int i = 0; i < ABOVE.length && within(at, 0, ABOVE.length - 1); i++) {
            if (at == above) {
                return true;
            }
            at = ABOVE[at];
        }
        return false;
    }

    private static int swelling(int kind, int number, int sigh, int wash) {
        int thing = 1 + sigh;
        switch (kind) {
            case COPPER: return 0;
            case COAT: return 2 * thing;
            case HAT: return Math.max(0, 2 * thing - 3);
            case LINEN: return wash % 3;
            case FIELD: return wash % 3 + number;
            default: return thing;
        }
    }

    private static int needing(int kind, int bulk, int crease) {
        int thing = bulk / 6 + crease;
        switch (kind) {
            case COPPER: return 30;
            case COAT: return thing + 4;
            case HAT: return (thing + 4) / 2 + 1;
            case LINEN: return thing / 2;
            case FIELD: return thing / 2 + crease / 2;
            default: return thing;
        }
    }

    /** The things and the wash that comes: all that a wash changes, so that trials need copy no more. */
    private static final class Load {
        int wash = 0;
        int count = 0;
        int flat = 0;
        final int[] kind = new int[THINGS];
        final int[] bulk = new int[THINGS];
        final int[] crease = new int[THINGS];
        final int[] board = new int[THINGS];

        void copy(Load other) {
            wash = other.wash;
            count = other.count;
            flat = other.flat;
            System.arraycopy(other.kind, 0, kind, 0, THINGS);
            System.arraycopy(other.bulk, 0, bulk, 0, THINGS);
            System.arraycopy(other.crease, 0, crease, 0, THINGS);
            System.arraycopy(other.board, 0, board, 0, THINGS);
        }

        boolean isFlat(int k) {
            return (flat >> k & 1) == 1;
        }

        void setFlat(int k, boolean is) {
            flat = is ? flat | 1 << k : flat & ~(1 << k);
        }

        void lieFlat(int k) {
            setFlat(k, true);
            bulk[k] = 0;
        }

        void fold(int k) {
            crease[k] = Math.min(MAX_CREASE, crease[k] + 1);
            bulk[k] = Math.max(0, bulk[k] - 6);
        }

        int bulkOfAll() {
            int sum = 0;
            for (int k = 0; k < count; k++) {
                sum += bulk[k];
            }
            return sum;
        }

        int flatOn(int f) {
            int found = 0;
            for (int k = 0; k < count; k++) {
                if (isFlat(k) && board[k] == f) {
                    found++;
                }
            }
            return found;
        }

        void undoLastFlat() {
            for (int k = count - 1; k >= 0; k--) {
                if (isFlat(k)) {
                    setFlat(k, false);
                    bulk[k] = 25;
                    return;
                }
            }
        }

        int pileOf(int k) {
            if (isFlat(k)) {
                return 0;
            }
            int pile = 1 << k;
            // Each round adds at least one thing, or none is left to add.
            for (int round = 0; round < count; round++) {
                for (int other = 0; other < count; other++) {
                    if (isCloseToAny(other, pile)) {
                        pile |= 1 << other;
                    }
                }
            }
            return pile;
        }

        private boolean isCloseToAny(int other, int pile) {
            if (isFlat(other)) {
                return false;
            }
            for (int k = 0; k < count; k++) {
                if ((pile >> k & 1) == 1 && (board[k] == board[other] || crease[k] == crease[other])) {
                    return true;
                }
            }
            return false;
        }
    }

    /** All that is kept: the load as it is, and what it goes by. */
    private static final class Laundry {
        final Load load = new Load();
        int end = 12;
        int score = 0;
        int z = 1;
        final int[] iron = new int[WASHES];
        final int[] weight = new int[BOARDS];
        final int[] rope = new int[BOARDS];
        final Rule[] rules = new Rule[RULES];
        int ruleCount = 0;
        final Reports reports = new Reports();

        Laundry() {
            Arrays.fill(iron, 9);
        }

        void copy(Laundry other) {
            load.copy(other.load);
            end = other.end;
            score = other.score;
            z = other.z;
            System.arraycopy(other.iron, 0, iron, 0, WASHES);
            System.arraycopy(other.weight, 0, weight, 0, BOARDS);
            System.arraycopy(other.rope, 0, rope, 0, BOARDS);
            takeRules(other.rules, other.ruleCount);
            reports.copy(other.reports);
        }

        void takeRules(Rule[] from, int n) {
            ruleCount = n;
            for (int i = 0; i < n; i++) {
                rules[i] = from[i];
            }
        }

        boolean isOver(Load l) {
            return l.wash >= end;
        }

        int ironAt(int wash) {
            return wash >= 0 && wash < WASHES ? iron[wash] : 0;
        }

        int steamNow(Load l) {
            return ironAt(l.wash) / 4;
        }

        int sighNow(Load l) {
            return ironAt(l.wash) % 4;
        }

        int swells(Load l, int k, int sigh) {
            int loose = swelling(l.kind[k], k, sigh, l.wash);
            return Math.max(0, loose - rope[l.board[k]] / 3);
        }

        int pays(Load l, int k, int steam) {
            if (l.isFlat(k)) {
                return 0;
            }
            int f = l.board[k];
            int press = 4 * steam + weight[f] + 2 * l.flatOn(f);
            return press >= needing(l.kind[k], l.bulk[k], l.crease[k]) ? 4 + l.bulk[k] / 12 : 0;
        }

        int will(Load l, int k, int steam) {
            for (int i = 0; i < ruleCount; i++) {
                Rule rule = rules[i];
                if (rule != null && isOrIsUnder(l.kind[k], rule.kind) && rule.holds(l, k, steam)) {
                    return rule.will;
                }
            }
            return PRESS;
        }

        boolean mayBePressed(Load l, int k, int steam) {
            return pays(l, k, steam) > 0 && will(l, k, steam) == PRESS;
        }

        int actOfRest(Load l) {
            int steam = steamNow(l);
            for (int k = 0; k < l.count; k++) {
                if (mayBePressed(l, k, steam)) {
                    return k + 1;
                }
            }
            return 0;
        }

        int goRest(Load l, int n) {
            int worth = 0;
            for (int i = 0; i < n && !isOver(l); i++) {
                worth += goBy(l, actOfRest(l));
            }
            return worth;
        }

        int goBy(Load l, int told) {
            int sigh = sighNow(l);
            int worth = told >= 1 && told <= l.count ? doWill(l, told - 1) : 0;
            if (sigh == 3) {
                l.undoLastFlat();
            }
            worth += Integer.bitCount(l.flat);
            for (int k = 0; k < l.count; k++) {
                l.bulk[k] = l.isFlat(k) ? 0 : Math.min(MAX_BULK, l.bulk[k] + swells(l, k, sigh));
            }
            l.wash++;
            return worth;
        }

        private int doWill(Load l, int k) {
            if (l.isFlat(k)) {
                return 0;
            }
            int steam = steamNow(l);
            switch (will(l, k, steam)) {
                case PRESS:
                    int worth = pays(l, k, steam);
                    if (worth > 0) {
                        l.lieFlat(k);
                    }
                    return worth;
                case FOLD:
                    l.fold(k);
                    // 'if SIGH is 0' is read as of the WORTH alone, beside which it stands.
                    return sighNow(l) == 0 ? 1 : 0;
                default:
                    return 0;
            }
        }
    }

    /** One rule; its condition is a row of steps, each an operation and two values, for a stack of truths. */
    private static final class Rule {
        static final int LESS = 0, EQUAL = 1, MORE = 2, AND = 3, OR = 4, NOT = 5;
        static final int STEP = 3;
        // Values from here on are facts, those below are themselves.
        static final int FACT = 10000;

        final int kind;
        final int will;
        private final int[] steps;

        Rule(int kind, int will, int[] steps) {
            this.kind = kind;
            this.will = will;
            this.steps = steps;
        }

        /** The stack's bits are truths, the latest lowest; it stays low, for few "(" may be open. */
        boolean holds(Load l, int k, int steam) {
            int stack = 1;
            for (int i = 0; i + 2 < steps.length; i += STEP) {
                int top = stack & 1;
                switch (steps[i]) {
                    case AND: stack = stack >> 1 & (top | ~1); break;
                    case OR: stack = stack >> 1 | top; break;
                    case NOT: stack ^= 1; break;
                    default:
                        int left = valueOf(steps[i + 1], l, k, steam);
                        int right = valueOf(steps[i + 2], l, k, steam);
                        stack = stack << 1 | (compares(steps[i], left, right) ? 1 : 0);
                        break;
                }
            }
            return (stack & 1) == 1;
        }

        private static boolean compares(int sign, int left, int right) {
            switch (sign) {
                case LESS: return left < right;
                case EQUAL: return left == right;
                default: return left > right;
            }
        }

        private static int valueOf(int value, Load l, int k, int steam) {
            switch (value - FACT) {
                case 0: return l.wash;
                case 1: return l.bulk[k];
                case 2: return l.crease[k];
                case 3: return steam;
                case 4: return k;
                default: return value;
            }
        }
    }

    /** The tape, and the rules read from it. What can't stand is where the reader stopped. */
    private static final class RuleReader {
        private static final String WORDS = "thing copper coat hat linen field press leave fold wash bulk crease steam number if or and not";
        // Places of words in WORDS; first and last of those that stand for one another.
        private static final int FIRST_KIND = 0, LAST_KIND = 5, FIRST_DOING = 6, LAST_DOING = 8, FIRST_FACT = 9, LAST_FACT = 13;
        private static final int IF = 14, OR = 15, AND = 16, NOT = 17, NO_WORD = -1;
        private static final int AT_END = 0, NAME = 1, NUMBER = 2, OTHER = 3;

        private final int[] tape = new int[TAPE];
        int size = 0;
        private int start = 0;
        private int stop = 0;
        private int sort = AT_END;
        private int word = NO_WORD;
        // A step takes two bytes of the tape at least.
        private final int[] steps = new int[TAPE / 2 * Rule.STEP];
        private int stepsUsed = 0;
        final Rule[] made = new Rule[RULES];
        int count = 0;

        int take(long eight, int n) {
            if (size + n > TAPE) {
                return FULL;
            }
            for (int i = 0; i < n; i++) {
                tape[size] = (int) (eight >>> 8 * i & 255);
                size++;
            }
            return size;
        }

        void begin() {
            count = 0;
            stop = 0;
            goOn();
        }

        void useUp() {
            size = 0;
        }

        boolean isAtEnd() {
            return sort == AT_END;
        }

        int place() {
            return start;
        }

        /** Goes to the next name, number or other byte. */
        private void goOn() {
            start = stop;
            while (start < size && tape[start] == ' ') {
                start++;
            }
            sort = sortAt(start);
            stop = sort == AT_END ? start : start + 1;
            while (sort != OTHER && stop < size && sortAt(stop) == sort) {
                stop++;
            }
            word = sort == NAME ? placeInWords() : NO_WORD;
        }

        private int sortAt(int i) {
            if (i < 0 || i >= size) {
                return AT_END;
            }
            if (tape[i] >= 'a' && tape[i] <= 'z') {
                return NAME;
            }
            return tape[i] >= '0' && tape[i] <= '9' ? NUMBER : OTHER;
        }

        private int placeInWords() {
            int place = 0;
            int same = 0;
            for (int i = 0; i <= WORDS.length(); i++) {
                if (i == WORDS.length() || WORDS.charAt(i) == ' ') {
                    if (same == stop - start) {
                        return place;
                    }
                    place++;
                    same = 0;
                } else if (same >= 0 && start + same < stop && tape[start + same] == WORDS.charAt(i)) {
                    same++;
                } else {
                    // Below 0 till the word ends: it is another one.
                    same = -1;
                }
            }
            return NO_WORD;
        }

        private boolean isWord(int first, int last) {
            return word >= first && word <= last;
        }

        private boolean isSign(char sign) {
            return sort == OTHER && tape[start] == sign;
        }

        boolean readRule() {
            if (!isWord(FIRST_KIND, LAST_KIND) || count >= RULES) {
                return false;
            }
            int kind = word - FIRST_KIND;
            goOn();
            stepsUsed = 0;
            if (word == IF) {
                goOn();
                if (!readCondition(0)) {
                    return false;
                }
            }
            if (!isWord(FIRST_DOING, LAST_DOING)) {
                return false;
            }
            int will = word - FIRST_DOING;
            goOn();
            if (!isSign(';')) {
                return false;
            }
            goOn();
            made[count] = new Rule(kind, will, Arrays.copyOf(steps, stepsUsed));
            count++;
            return true;
        }

        private boolean readCondition(int open) {
            boolean read = readAllOf(open);
            for (int i = 0; i < TAPE && read && word == OR; i++) {
                goOn();
                read = readAllOf(open);
                addStep(Rule.OR, 0, 0);
            }
            return read;
        }

        private boolean readAllOf(int open) {
            boolean read = readOne(open);
            for (int i = 0; i < TAPE && read && word == AND; i++) {
                goOn();
                read = readOne(open);
                addStep(Rule.AND, 0, 0);
            }
            return read;
        }

        private boolean readOne(int open) {
            boolean denied = false;
            for (int i = 0; i < TAPE && word == NOT; i++) {
                denied = !denied;
                goOn();
            }
            boolean read = isSign('(') ? readInner(open) : readComparison();
            if (denied) {
                addStep(Rule.NOT, 0, 0);
            }
            return read;
        }

        private boolean readInner(int open) {
            if (open >= OPEN) {
                return false;
            }
            goOn();
            if (!readCondition(open + 1) || !isSign(')')) {
                return false;
            }
            goOn();
            return true;
        }

        private boolean readComparison() {
            int left = valueHere();
            if (left < 0) {
                return false;
            }
            goOn();
            int sign = isSign('<') ? Rule.LESS : isSign('=') ? Rule.EQUAL : isSign('>') ? Rule.MORE : -1;
            if (sign < 0) {
                return false;
            }
            goOn();
            int right = valueHere();
            if (right < 0) {
                return false;
            }
            goOn();
            addStep(sign, left, right);
            return true;
        }

        /** A number as itself, a fact from FACT on; below 0 if there is neither. */
        private int valueHere() {
            if (isWord(FIRST_FACT, LAST_FACT)) {
                return Rule.FACT + word - FIRST_FACT;
            }
            if (sort != NUMBER || stop - start > 4) {
                return -1;
            }
            int value = 0;
            for (int i = start; i < stop; i++) {
                value = value * 10 + tape[i] - '0';
            }
            return value;
        }

        private void addStep(int operation, int left, int right) {
            if (stepsUsed + Rule.STEP <= steps.length) {
                steps[stepsUsed] = operation;
                steps[stepsUsed + 1] = left;
                steps[stepsUsed + 2] = right;
                stepsUsed += Rule.STEP;
            }
        }
    }

    /** Goes through all plans, and all games, of a laundry as it is. */
    private static final class Search {
        // By how many washes of the plan have gone by: how it is behind them.
        private final Load[] behind = new Load[PLAN + 1];
        private final int[] acts = new int[PLAN];
        private int wanted = 0;
        final int[] first = new int[PLAN];
        int length = 0;
        int most = 0;
        int bestPlans = 0;
        int fewest = NONE;
        int everFlat = 0;
        int opening = 0;

        Search() {
            for (int i = 0; i < behind.length; i++) {
                behind[i] = new Load();
            }
        }

        private void begin(Laundry laundry, int n) {
            behind[0].copy(laundry.load);
            length = Math.max(0, Math.min(Math.min(n, PLAN), laundry.end - laundry.load.wash));
        }

        void tryAll(Laundry laundry, int n, int things) {
            begin(laundry, n);
            wanted = things;
            most = -1;
            bestPlans = 0;
            fewest = NONE;
            everFlat = 0;
            tryFrom(laundry, 0, 0, 0);
        }

        private void tryFrom(Laundry laundry, int depth, int worth, int told) {
            if (depth >= length) {
                weigh(worth, told);
                return;
            }
            Load ahead = behind[depth];
            Load next = behind[depth + 1];
            for (int act = 0; act <= ahead.count; act++) {
                next.copy(ahead);
                acts[depth] = act;
                int more = laundry.goBy(next, act);
                tryFrom(laundry, depth + 1, worth + more, act == 0 ? told : told + 1);
            }
        }

        // Plans come in the order of their acts, so the first with most worth is the FIRST of the best.
        private void weigh(int worth, int told) {
            if (worth > most) {
                most = worth;
                bestPlans = 0;
                System.arraycopy(acts, 0, first, 0, length);
            }
            if (worth == most) {
                bestPlans++;
            }
            int flat = behind[length].flat;
            everFlat |= flat;
            if ((flat & wanted) == wanted && (fewest == NONE || told < fewest)) {
                fewest = told;
            }
        }

        int gameOf(Laundry laundry, int n) {
            begin(laundry, n);
            opening = 0;
            return valueFrom(laundry, 0);
        }

        private int valueFrom(Laundry laundry, int depth) {
            if (depth >= length) {
                return 0;
            }
            Load ahead = behind[depth];
            Load next = behind[depth + 1];
            boolean wantsMuch = depth % 2 == 0;
            int value = 0;
            for (int act = 0; act <= ahead.count; act++) {
                next.copy(ahead);
                int worth = laundry.goBy(next, act);
                worth += valueFrom(laundry, depth + 1);
                if (act == 0 || (wantsMuch ? worth > value : worth < value)) {
                    value = worth;
                    if (depth == 0) {
                        opening = act;
                    }
                }
            }
            return value;
        }
    }

    /** Reports of a lone thing, and which lone things fit them. */
    private static final class Reports {
        int count = 0;
        private final int[] behind = new int[REPORTS];
        private final int[] asked = new int[REPORTS];
        private final int[] lowest = new int[REPORTS];
        private final int[] highest = new int[REPORTS];
        int fitting = 0;
        int firstKind = 0;
        int firstCrease = 0;
        int firstBulk = 0;
        // Reports, as a set, each of which is the only one that is wrong of some lone thing.
        int soleWrong = 0;

        void copy(Reports other) {
            count = other.count;
            System.arraycopy(other.behind, 0, behind, 0, REPORTS);
            System.arraycopy(other.asked, 0, asked, 0, REPORTS);
            System.arraycopy(other.lowest, 0, lowest, 0, REPORTS);
            System.arraycopy(other.highest, 0, highest, 0, REPORTS);
        }

        int add(int k, int what, int from, int to) {
            if (count >= REPORTS) {
                return FULL;
            }
            behind[count] = k;
            asked[count] = what;
            lowest[count] = from;
            highest[count] = to;
            count++;
            return count - 1;
        }

        void weighAll(int[] iron) {
            fitting = 0;
            soleWrong = 0;
            for (int kind = COPPER; kind <= FIELD; kind++) {
                for (int crease = 0; crease <= MAX_CREASE; crease++) {
                    for (int bulk = 0; bulk <= 81; bulk += 9) {
                        weighOne(kind, crease, bulk, iron);
                    }
                }
            }
        }

        private void weighOne(int kind, int crease, int bulk, int[] iron) {
            int wrong = wrongOf(kind, crease, bulk, iron);
            if (wrong == 0) {
                if (fitting == 0) {
                    firstKind = kind;
                    firstCrease = crease;
                    firstBulk = bulk;
                }
                fitting++;
            } else if (Integer.bitCount(wrong) == 1) {
                soleWrong |= wrong;
            }
        }

        /** The reports, as a set, that aren't so of a lone thing. */
        private int wrongOf(int kind, int crease, int bulkAtFirst, int[] iron) {
            int wrong = 0;
            int bulk = bulkAtFirst;
            int paid = 0;
            for (int wash = 0; wash < iron.length; wash++) {
                wrong |= wrongBehind(wash, bulk, paid);
                if (iron[wash] / 4 * 4 >= needing(kind, bulk, crease)) {
                    paid++;
                }
                bulk = Math.min(MAX_BULK, bulk + swelling(kind, 0, iron[wash] % 4, wash));
            }
            return wrong;
        }

        private int wrongBehind(int washes, int bulk, int paid) {
            int wrong = 0;
            for (int i = 0; i < count; i++) {
                int was = asked[i] == 0 ? bulk : paid;
                if (behind[i] == washes && !within(was, lowest[i], highest[i])) {
                    wrong |= 1 << i;
                }
            }
            return wrong;
        }
    }

    /** A row of items of one sort; ints hold all that can be read of any sort. */
    private static final class SheetRow {
        final int sort;
        final int[] items;

        SheetRow(int sort, int n) {
            this.sort = sort;
            this.items = new int[Math.max(0, n)];
        }

        boolean has(int i) {
            return within(i, 0, items.length - 1);
        }

        void put(int i, int v) {
            switch (sort) {
                case BYTES: items[i] = (byte) v; break;
                case SHORTS: items[i] = (short) v; break;
                case BOOLEANS: items[i] = v != 0 ? 1 : 0; break;
                default: items[i] = v; break;
            }
        }
    }

    /** A thing of its kind that acts; a body runs others, those of its own kind or those above it. */
    private static final class Actor {
        private static final int FOLDS = 0, AIRS = 1, SHARES = 2, ACTS = 4;
        // By KIND, then by act: the body that a thing of that KIND has, its own or the nearest above it.
        private static final int[] BODY = {
            10, 11, 12, 13,
            20, 11, 12, 13,
            10, 30, 12, 13,
            50, 30, 12, 51,
            10, 11, 40, 13,
            10, 60, 61, 13,
        };
        // Far above what the bodies need: 51, 13, 30, 11, 50, 10 is the longest chain.
        private static final int DEEPEST = 20;

        final int[] bodies = new int[BODIES];
        int ran = 0;
        private int kind = 0;
        private int number = 0;
        private int board = 0;
        private boolean parted = false;

        void forgetBodies() {
            ran = 0;
        }

        void become(int kind, int number, int board) {
            this.kind = kind;
            this.number = number;
            this.board = board;
        }

        int doAct(int which, int x) {
            parted = false;
            int answer = run(bodyOf(which), x, 0);
            return parted ? PARTED_BY_ZERO : answer;
        }

        private int bodyOf(int which) {
            int i = kind * ACTS + which;
            return within(i, 0, BODY.length - 1) ? BODY[i] : 0;
        }

        // Once something was parted by 0 no body begins any more.
        private int run(int body, int x, int depth) {
            if (parted || depth > DEEPEST) {
                return 0;
            }
            if (ran < bodies.length) {
                bodies[ran] = body;
                ran++;
            }
            int d = depth + 1;
            switch (body) {
                case 10: return x * 6 - 2 * number;
                case 11: return run(bodyOf(FOLDS), x, d) + 7 * board;
                case 12: return part(x, number - board + 2);
                case 13: return run(bodyOf(AIRS), x, d) - run(bodyOf(SHARES), x, d);
                case 20: return run(10, x, d) ^ 23;
                case 30: return run(11, x, d) * 2;
                case 40: return run(12, x, d) + 8;
                case 50: return run(10, x + 9, d);
                case 51: return run(13, x, d) - run(bodyOf(AIRS), board, d);
                case 60: return 0 - run(11, x, d);
                case 61: return run(40, x, d) ^ run(bodyOf(FOLDS), number, d);
                default: return 0;
            }
        }

        private int part(int x, int parts) {
            if (parts == 0) {
                parted = true;
                return 0;
            }
            return x / parts;
        }
    }
}
