import java.util.Arrays;

/**
 * Fields cut out of alike pages by rules learnt from few marked ones. The words in capitals are
 * those of the document; sets of places, of EXAMPLES and of FIELDS are held as bits.
 */
public final class FieldCutter {
    public static final int NONE = -1;

    private static final int NO_RULE = -2;
    private static final int MOST_BYTES = 900;
    private static final int MOST_FIELDS = 4;
    private static final int MOST_PAGES = 6;
    private static final int MOST_TOKENS = 40;
    private static final int MOST_PARTS = 8;
    private static final int MOST_ACTS = 16;
    private static final int BOXES = 2;
    private static final int KINDS = 3;
    private static final int MOST_ITEMS = KINDS + MOST_PAGES * MOST_TOKENS;
    private static final int PAGE_SETS = 1 << MOST_PAGES;

    private static final int SILENT = 0;
    private static final int RIGHT = 1;
    private static final int WRONG = 2;

    private final byte[] tape = new byte[MOST_BYTES];
    private int taped;
    private int latestFault;
    private int latestPlace = NONE;
    private Fields fields = new Fields();
    private final Reader reader = new Reader();
    private final History history = new History();
    private final State[] boxes = new State[BOXES];
    private final Table[] tables = new Table[MOST_FIELDS];
    private final Cover least = new Cover();
    private final Ground ground = new Ground();
    private final Tally tally = new Tally();
    private final Letters letters = new Letters();
    private final Letters others = new Letters();

    /** No FIELDS, no PAGES. */
    public FieldCutter() {
        for (int f = 0; f < MOST_FIELDS; f++) {
            tables[f] = new Table();
        }
    }

    // ---- the TAPE, the BOOK, its PAGES ----

    /** Twenty bytes more on the TAPE: how many it has then, or NONE. */
    public int feed(int a, int b, int c, int d, int e) {
        if (taped + 20 > MOST_BYTES) {
            return NONE;
        }
        putBytes(a);
        putBytes(b);
        putBytes(c);
        putBytes(d);
        putBytes(e);
        return taped;
    }

    private void putBytes(int four) {
        for (int shift = 24; shift >= 0 && taped < MOST_BYTES; shift -= 8) {
            tape[taped] = (byte) (four >> shift);
            taped++;
        }
    }

    /** The TAPE is cut off behind its first n bytes: n, or NONE. */
    public int end(int n) {
        if (n < 0 || n > taped) {
            return NONE;
        }
        taped = n;
        return n;
    }

    /** The TAPE is the BOOK: how many PAGES, or NONE at a FAULT. */
    public int book() {
        boolean fine = reader.readBook(tape, taped);
        noteReading();
        if (!fine) {
            return NONE;
        }
        fields = reader.fields;
        history.restart(null);
        State now = history.now();
        for (int p = 0; p < reader.pageCount; p++) {
            now.addPage(reader.rows[p], reader.counts[p]);
        }
        for (int b = 0; b < BOXES; b++) {
            boxes[b] = null;
        }
        forgetFindings();
        return now.pageCount;
    }

    /** The TAPE is one PAGE more: its number, or NONE. An ACT. */
    public int page() {
        if (history.now().pageCount >= MOST_PAGES) {
            taped = 0;
            return NONE;
        }
        boolean fine = reader.readOnePage(tape, taped);
        noteReading();
        if (!fine) {
            return NONE;
        }
        State now = history.begin();
        now.addPage(reader.rows[0], reader.counts[0]);
        forgetFindings();
        return now.pageCount - 1;
    }

    private void noteReading() {
        taped = 0;
        latestFault = reader.fault;
        latestPlace = reader.place;
    }

    /** What the latest book() or page() found wrong, and where. */
    public int fault(int what) {
        switch (what) {
            case 0:
                return latestFault;
            case 1:
                return latestPlace;
            default:
                return NONE;
        }
    }

    /** What a FIELD is, and the SHAPE that is LEARNT of it. */
    public int field(int field, int what) {
        if (!fields.has(field)) {
            return NONE;
        }
        State now = history.now();
        Learnt learnt = now.learnt[field];
        switch (what) {
            case 0:
                return fields.parents[field];
            case 1:
                return fields.many[field] ? 1 : 0;
            case 2:
                return now.examplesOf(field);
            case 3:
                return learnt == null ? 0 : learnt.rules.length;
            case 4:
                return learnt == null ? NONE : learnt.fewest;
            case 5:
                return learnt == null ? NONE : learnt.most;
            case 6:
                return learnt == null ? 0 : learnt.firsts;
            case 7:
                return learnt == null ? 0 : learnt.lasts;
            default:
                return NONE;
        }
    }

    /** How many TOKENS a PAGE has. */
    public int tokens(int page) {
        Page sheet = history.now().pageAt(page);
        return sheet == null ? NONE : sheet.count;
    }

    /** A TOKEN's KIND, NUMBER, or how many bytes it has. */
    public int token(int page, int at, int what) {
        Page sheet = history.now().pageAt(page);
        if (sheet == null || at < 0 || at >= sheet.count) {
            return NONE;
        }
        switch (what) {
            case 0:
                return sheet.kinds[at];
            case 1:
                return sheet.numbers[at];
            case 2:
                return sizeOf(sheet.texts[at]);
            default:
                return NONE;
        }
    }

    // ---- ACTS ----

    /** A part is MARKED: how many there are then, or NONE. An ACT. */
    public int mark(int page, int field, int from, int to) {
        State now = history.now();
        Page sheet = now.pageAt(page);
        if (sheet == null || !fields.has(field) || from < 0 || from >= to || to > sheet.count) {
            return NONE;
        }
        int spot = spotOf(page, field);
        if (!hasRoom(now.starts[spot], now.ends[spot], field, from)) {
            return NONE;
        }
        if (!withinParent(now, page, field, 1L << from, 1L << to)) {
            return NONE;
        }
        State next = history.begin();
        next.starts[spot] |= 1L << from;
        next.ends[spot] |= 1L << to;
        forgetFindings();
        return Long.bitCount(next.starts[spot]);
    }

    private boolean hasRoom(long starts, long ends, int field, int from) {
        if (starts == 0) {
            return true;
        }
        boolean behindAll = (ends & ~below(from + 1)) == 0;
        return fields.many[field] && Long.bitCount(starts) < MOST_PARTS && behindAll;
    }

    private boolean withinParent(State state, int page, int field, long starts, long ends) {
        int parent = fields.parents[field];
        if (parent == NONE) {
            return true;
        }
        int spot = spotOf(page, parent);
        if (state.starts[spot] == 0) {
            return false;
        }
        int from = lowest(state.starts[spot]);
        int to = lowest(state.ends[spot]);
        return (starts & below(from)) == 0 && (ends & ~below(to + 1)) == 0;
    }

    /** MARKS of a FIELD on a PAGE are taken, and all within them: how many parts. An ACT. */
    public int unmark(int page, int field) {
        State now = history.now();
        if (!fields.has(field) || !now.isExample(page, field)) {
            return NONE;
        }
        State next = history.begin();
        int taken = 0;
        for (int f = field; f < fields.count; f++) {
            if ((fields.lineOf(f) >> field & 1) != 0) {
                int spot = spotOf(page, f);
                taken += Long.bitCount(next.starts[spot]);
                next.starts[spot] = 0;
                next.ends[spot] = 0;
            }
        }
        forgetFindings();
        return taken;
    }

    /** A FIELD is LEARNT: how many RULES, or NONE. An ACT. */
    public int learn(int field) {
        if (!fields.has(field) || history.now().examplesOf(field) == 0) {
            return NONE;
        }
        history.begin();
        return keepLearnt(field, whatIsLearntNow(field));
    }

    private int keepLearnt(int field, Learnt learnt) {
        history.now().learnt[field] = learnt;
        tally.forget();
        return learnt.rules.length;
    }

    private Learnt whatIsLearntNow(int field) {
        State now = history.now();
        Table table = tableOf(field);
        least.solve(table, now.examplesOf(field));
        return new Learnt(table, least, now, field);
    }

    /** What is PROPOSED for a PAGE is its MARK, and LEARNT: how many RULES, or NONE. An ACT. */
    public int take(int page, int field) {
        int k = proposalFor(page, field);
        if (k == NONE || history.now().isExample(page, field)) {
            return NONE;
        }
        long starts = tally.starts[k];
        long ends = tally.ends[k];
        if (!withinParent(history.now(), page, field, starts, ends)) {
            return NONE;
        }
        State next = history.begin();
        int spot = spotOf(page, field);
        next.starts[spot] = starts;
        next.ends[spot] = ends;
        forgetFindings();
        return keepLearnt(field, whatIsLearntNow(field));
    }

    /** The latest ACT is taken back, if there is one. */
    public boolean undo() {
        boolean moved = history.stepBack();
        forgetFindings();
        return moved;
    }

    /** What was taken back last is done again, if there is such. */
    public boolean redo() {
        boolean moved = history.stepOn();
        forgetFindings();
        return moved;
    }

    /** Tables and VOTES are found again when they are asked for next. */
    private void forgetFindings() {
        for (int f = 0; f < MOST_FIELDS; f++) {
            tables[f].fresh = false;
        }
        tally.forget();
    }

    // ---- MARKS and RULES ----

    /** How many parts a MARK has, or from, to of one. */
    public int marked(int page, int field, int i, int what) {
        if (!known(page, field)) {
            return NONE;
        }
        State now = history.now();
        int spot = spotOf(page, field);
        return partOf(now.starts[spot], now.ends[spot], i, what);
    }

    /** An ITEM, or the COST, of a LEARNT RULE. */
    public int rule(int field, int k, int what) {
        if (!fields.has(field)) {
            return NO_RULE;
        }
        Learnt learnt = history.now().learnt[field];
        if (learnt == null || k < 0 || k >= learnt.rules.length) {
            return NO_RULE;
        }
        return detailOf(learnt.rules[k], what);
    }

    /** Whether a RULE told by its ITEMS is SILENT, RIGHT or WRONG on an EXAMPLE. */
    public int tries(int page, int field, int far, int near, int second, int stop) {
        if (!known(page, field) || !history.now().isExample(page, field)) {
            return NONE;
        }
        if (!isItem(far) || !isItem(near) || !isItem(second) || !isItem(stop)) {
            return NONE;
        }
        if (near == NONE && second != NONE) {
            return NONE;
        }
        State now = history.now();
        int spot = spotOf(page, field);
        ground.layMarked(now, page, fields.parents[field]);
        ground.slice(ruleOf(far, near, second, stop), fields.many[field]);
        return ground.verdict(now.starts[spot], now.ends[spot]);
    }

    private boolean isItem(int item) {
        return item >= NONE && item < KINDS + history.now().unlikeTokens();
    }

    /** How many RULES can be, how many of them are GOOD. */
    public int could(int field, int what) {
        if (!fields.has(field)) {
            return NONE;
        }
        Table table = tableOf(field);
        switch (what) {
            case 0:
                return table.count;
            case 1:
                return table.goodOnes();
            default:
                return NONE;
        }
    }

    /** How many RULES the COVER has, their COST, HOPELESS EXAMPLES. */
    public int cover(int field, int what) {
        if (!fields.has(field)) {
            return NONE;
        }
        least.solve(tableOf(field), history.now().examplesOf(field));
        switch (what) {
            case 0:
                return least.count;
            case 1:
                return least.cost;
            case 2:
                return least.hopeless;
            default:
                return NONE;
        }
    }

    /** An ITEM, or the COST, of a RULE of the COVER, or EXAMPLES on which it is RIGHT. */
    public int covers(int field, int k, int what) {
        if (!fields.has(field)) {
            return NO_RULE;
        }
        Table table = tableOf(field);
        least.solve(table, history.now().examplesOf(field));
        if (k < 0 || k >= least.count) {
            return NO_RULE;
        }
        int at = least.row[k];
        return what == 5 ? table.right[at] : detailOf(table.rules[at], what);
    }

    /** Whether two EXAMPLES CONTRADICT one another. */
    public int contradict(int field, int page, int other) {
        State now = history.now();
        if (!fields.has(field) || page == other) {
            return NONE;
        }
        if (!now.isExample(page, field) || !now.isExample(other, field)) {
            return NONE;
        }
        int both = 1 << page | 1 << other;
        least.solve(tableOf(field), both);
        return least.hopeless == both ? 1 : 0;
    }

    /** Whether what is LEARNT is not what would be LEARNT now. */
    public int stale(int field) {
        if (!fields.has(field)) {
            return NONE;
        }
        State now = history.now();
        Learnt learnt = now.learnt[field];
        if (learnt == null || now.examplesOf(field) == 0) {
            return NONE;
        }
        return learnt.isLike(whatIsLearntNow(field)) ? 0 : 1;
    }

    // ---- what is CUT ----

    /** How many parts a PAGE is CUT in, or from, to of one. */
    public int cut(int page, int field, int i, int what) {
        if (!learntFor(page, field)) {
            return NONE;
        }
        slicePage(page, field, NONE);
        return partOf(ground.starts, ground.ends, i, what);
    }

    /** The LEARNT RULE by which a PAGE is CUT. */
    public int by(int page, int field) {
        return learntFor(page, field) ? slicePage(page, field, NONE) : NONE;
    }

    /** How many letters are CUT, or one of them. */
    public int letter(int page, int field, int i) {
        if (!spellPage(page, field)) {
            return NONE;
        }
        return i == NONE ? letters.count : letters.at(i);
    }

    /** The PATTERN at a place. */
    public int pattern(int field, int place) {
        if (!fields.has(field)) {
            return NONE;
        }
        Learnt learnt = history.now().learnt[field];
        if (learnt == null || place < 0 || place >= learnt.pattern.length) {
            return NONE;
        }
        return learnt.pattern[place];
    }

    /** How many parts are PROPOSED, or from, to of one. */
    public int proposed(int page, int field, int i, int what) {
        int k = proposalFor(page, field);
        return k == NONE ? NONE : partOf(tally.starts[k], tally.ends[k], i, what);
    }

    /** The least PAGE that is CUT to the same letters. */
    public int alike(int page, int field) {
        if (!spellPage(page, field)) {
            return NONE;
        }
        State now = history.now();
        for (int p = 0; p < page; p++) {
            if (slicePage(p, field, NONE) != NONE) {
                others.spell(now.pageAt(p), NONE, ground.starts, ground.ends);
                if (others.isLike(letters)) {
                    return p;
                }
            }
        }
        return page;
    }

    /** The DRIFT of a PAGE in a FIELD. */
    public int drift(int page, int field) {
        return learntFor(page, field) ? driftOf(page, field) : NONE;
    }

    private int driftOf(int page, int field) {
        State now = history.now();
        Learnt learnt = now.learnt[field];
        if (slicePage(page, field, NONE) == NONE || learnt == null) {
            return 1;
        }
        return learnt.misfit(now.pageAt(page), ground.starts, ground.ends);
    }

    /** The first PAGE with a DRIFT in a LEARNT FIELD, or that FIELD. */
    public int strange(int what) {
        if (what != 0 && what != 1) {
            return NONE;
        }
        int pages = history.now().pageCount;
        for (int p = 0; p < pages; p++) {
            for (int f = 0; f < fields.count; f++) {
                if (learntFor(p, f) && driftOf(p, f) != 0) {
                    return what == 0 ? p : f;
                }
            }
        }
        return NONE;
    }

    /** How many TOKENS of a PAGE can be left out, each alone, with the same letters CUT. */
    public int sturdy(int page, int field) {
        if (!spellPage(page, field)) {
            return NONE;
        }
        Page sheet = history.now().pageAt(page);
        int count = sheet == null ? 0 : sheet.count;
        int same = 0;
        for (int t = 0; t < count; t++) {
            if (slicePage(page, field, t) != NONE) {
                others.spell(sheet, t, ground.starts, ground.ends);
                if (others.isLike(letters)) {
                    same++;
                }
            }
        }
        return same;
    }

    /** In how many EXAMPLES a FIELD would be CUT as it is MARKED. */
    public int right(int field) {
        if (!fields.has(field)) {
            return NONE;
        }
        State now = history.now();
        Learnt learnt = now.learnt[field];
        if (learnt == null) {
            return NONE;
        }
        int rightly = 0;
        for (int p = 0; p < now.pageCount; p++) {
            if (now.isExample(p, field)) {
                int spot = spotOf(p, field);
                ground.layMarked(now, p, fields.parents[field]);
                ground.sliceBy(learnt, fields.many[field]);
                if (ground.verdict(now.starts[spot], now.ends[spot]) == RIGHT) {
                    rightly++;
                }
            }
        }
        return rightly;
    }

    /** The fewest EXAMPLES whose COVER is RIGHT on all of them, as bits. */
    public int enough(int field) {
        if (!fields.has(field)) {
            return NONE;
        }
        int examples = history.now().examplesOf(field);
        if (examples == 0) {
            return NONE;
        }
        Table table = tableOf(field);
        int best = 0;
        for (int set = 1; set < PAGE_SETS; set++) {
            boolean fewer = best == 0 || Integer.bitCount(set) < Integer.bitCount(best);
            if (fewer && (set & ~examples) == 0) {
                least.solve(table, set);
                if (least.isRightOn(table, examples)) {
                    best = set;
                }
            }
        }
        return best;
    }

    // ---- VOTES ----

    /** How many OPINIONS of a PAGE there are, and what the strongest one is. */
    public int opinion(int page, int field, int what) {
        if (!known(page, field) || what < 0 || what > 4) {
            return NONE;
        }
        countVotes(page, field);
        if (what == 0) {
            return tally.count;
        }
        int k = tally.strongest(null, null);
        if (k == NONE) {
            return NONE;
        }
        switch (what) {
            case 1:
                return tally.votes[k];
            case 2:
                return Long.bitCount(tally.starts[k]);
            default:
                return partOf(tally.starts[k], tally.ends[k], 0, what - 3);
        }
    }

    /** The PAGE that is no EXAMPLE with the most OPINIONS. */
    public int next(int field) {
        if (!fields.has(field)) {
            return NONE;
        }
        State now = history.now();
        int best = NONE;
        int most = NONE;
        for (int p = 0; p < now.pageCount; p++) {
            if (!now.isExample(p, field)) {
                countVotes(p, field);
                if (tally.count > most) {
                    most = tally.count;
                    best = p;
                }
            }
        }
        return best;
    }

    /** How many EXAMPLES would be HOPELESS, were one no EXAMPLE. */
    public int without(int page, int field) {
        State now = history.now();
        if (!fields.has(field) || !now.isExample(page, field)) {
            return NONE;
        }
        least.solve(tableOf(field), now.examplesOf(field) & ~(1 << page));
        return Integer.bitCount(least.hopeless);
    }

    // ---- images ----

    /** All is kept in a BOX: how many parts are MARKED. */
    public int image(int box) {
        if (box < 0 || box >= BOXES) {
            return NONE;
        }
        State kept = boxes[box];
        if (kept == null) {
            kept = new State();
            boxes[box] = kept;
        }
        kept.copyFrom(history.now());
        return kept.partCount();
    }

    /** All is as it was kept in a BOX: how many parts are MARKED, or NONE. */
    public int back(int box) {
        if (box < 0 || box >= BOXES || boxes[box] == null) {
            return NONE;
        }
        history.restart(boxes[box]);
        forgetFindings();
        return history.now().partCount();
    }

    /** How much there is of what. */
    public int about(int what) {
        State now = history.now();
        switch (what) {
            case 0:
                return fields.count;
            case 1:
                return now.pageCount;
            case 2:
                return now.unlikeTokens();
            case 3:
                return now.partCount();
            case 4:
                return now.learntFields();
            case 5:
                return history.done;
            case 6:
                return history.undone;
            case 7:
                return taped;
            default:
                return NONE;
        }
    }

    // ---- what the calls share ----

    private boolean known(int page, int field) {
        return fields.has(field) && history.now().pageAt(page) != null;
    }

    private boolean learntFor(int page, int field) {
        return known(page, field) && history.now().learnt[field] != null;
    }

    private Table tableOf(int field) {
        Table table = tables[field];
        if (!table.fresh) {
            State now = history.now();
            table.collect(now, fields, field, ground);
            table.judge(now, fields, field, ground);
            table.fresh = true;
        }
        return table;
    }

    /** CUTS a PAGE, less one TOKEN or none; by which LEARNT RULE, NONE if by none. */
    private int slicePage(int page, int field, int leftOut) {
        State now = history.now();
        ground.lay(now.pageAt(page), leftOut);
        int line = fields.lineOf(field);
        int by = NONE;
        // A PARENT is told ahead of its FIELDS, so rising numbers lead from the outermost inwards.
        for (int f = 0; f <= field; f++) {
            if ((line >> f & 1) != 0) {
                by = ground.sliceBy(now.learnt[f], fields.many[f]);
                if (by == NONE) {
                    return NONE;
                }
                if (f < field) {
                    ground.within(lowest(ground.starts), lowest(ground.ends));
                }
            }
        }
        return by;
    }

    /** Spells what a PAGE is CUT to; false if it is not. */
    private boolean spellPage(int page, int field) {
        if (!learntFor(page, field) || slicePage(page, field, NONE) == NONE) {
            return false;
        }
        letters.spell(history.now().pageAt(page), NONE, ground.starts, ground.ends);
        return true;
    }

    private void countVotes(int page, int field) {
        if (tally.page == page && tally.field == field) {
            return;
        }
        // The table comes first: to build it others are laid out on the ground.
        Table table = tableOf(field);
        int parent = fields.parents[field];
        if (parent == NONE) {
            ground.lay(history.now().pageAt(page), NONE);
        } else {
            boolean sliced = slicePage(page, parent, NONE) != NONE;
            ground.within(sliced ? lowest(ground.starts) : 0, sliced ? lowest(ground.ends) : 0);
        }
        tally.countAll(table, ground, fields.many[field]);
        tally.page = page;
        tally.field = field;
    }

    /** Which OPINION is PROPOSED, NONE if none is. */
    private int proposalFor(int page, int field) {
        if (!learntFor(page, field)) {
            return NONE;
        }
        State now = history.now();
        countVotes(page, field);
        return tally.strongest(now.learnt[field], now.pageAt(page));
    }

    /** How many parts there are (i NONE), or from (what 0), to (1) of the i-th. */
    private static int partOf(long starts, long ends, int i, int what) {
        int count = Long.bitCount(starts);
        if (i == NONE) {
            return count;
        }
        if (i < 0 || i >= count || what < 0 || what > 1) {
            return NONE;
        }
        return nth(what == 0 ? starts : ends, i);
    }

    private static int spotOf(int page, int field) {
        return field * MOST_PAGES + page;
    }

    // ---- sets of places ----

    private static long below(int place) {
        return (1L << place) - 1;
    }

    private static int lowest(long set) {
        return Long.bitCount((set & -set) - 1);
    }

    private static int nth(long set, int i) {
        long rest = set;
        for (int k = 0; k < i && k < MOST_PARTS; k++) {
            rest &= rest - 1;
        }
        return lowest(rest);
    }

    // ---- a TOKEN's bytes, packed into a number ----

    private static boolean isLetter(int sign) {
        return sign >= 'a' && sign <= 'z';
    }

    private static boolean isDigit(int sign) {
        return sign >= '0' && sign <= '9';
    }

    private static int sizeOf(long text) {
        int size = 0;
        for (int shift = 0; shift < 64; shift += 8) {
            if ((text >>> shift) != 0) {
                size++;
            }
        }
        return size;
    }

    private static int kindOf(long text) {
        int last = (int) (text & 255);
        return isLetter(last) ? 0 : isDigit(last) ? 1 : 2;
    }

    // ---- a RULE, packed into a number that rises in the order of RULES ----

    private static long ruleOf(int far, int near, int second, int stop) {
        long cost = costOfItem(far) + costOfItem(near) + costOfItem(second) + costOfItem(stop);
        return cost << 32 | (far + 1L) << 24 | (near + 1L) << 16 | (second + 1L) << 8 | (stop + 1L);
    }

    /** A RULE that has no FAR, with one. */
    private static long withFar(long rule, int far) {
        long cost = far < KINDS ? 3 : 2;
        return rule + (cost << 32) + (far + 1L << 24);
    }

    private static int costOfItem(int item) {
        return item == NONE ? 0 : item < KINDS ? 3 : 2;
    }

    private static int itemOf(long rule, int place) {
        return (int) (rule >> (24 - 8 * place) & 255) - 1;
    }

    private static int costOf(long rule) {
        return (int) (rule >> 32);
    }

    private static int detailOf(long rule, int what) {
        if (what < 0 || what > 4) {
            return NO_RULE;
        }
        return what == 4 ? costOf(rule) : itemOf(rule, what);
    }

    /** The FIELDS of a BOOK. */
    private static final class Fields {
        final long[] names = new long[MOST_FIELDS];
        final int[] parents = new int[MOST_FIELDS];
        final boolean[] many = new boolean[MOST_FIELDS];
        int count;

        boolean has(int field) {
            return field >= 0 && field < count;
        }

        int find(long name) {
            for (int f = 0; f < count; f++) {
                if (names[f] == name) {
                    return f;
                }
            }
            return NONE;
        }

        void add(long name, int parent, boolean again) {
            if (count < MOST_FIELDS) {
                names[count] = name;
                parents[count] = parent;
                many[count] = again;
                count++;
            }
        }

        /** A FIELD, its PARENT, that one's PARENT and so on, as bits. */
        int lineOf(int field) {
            int line = 0;
            int f = field;
            for (int depth = 0; depth < MOST_FIELDS && has(f); depth++) {
                line |= 1 << f;
                f = parents[f];
            }
            return line;
        }
    }

    /** A PAGE: it never changes, so states and images share it. */
    private static final class Page {
        final int count;
        final long[] texts;
        final int[] kinds;
        final int[] numbers;
        /** How many unlike TOKENS it and all PAGES ahead of it have. */
        final int unlike;

        Page(long[] row, int size, Page[] ahead, int pages) {
            count = Math.max(0, Math.min(size, row.length));
            texts = Arrays.copyOf(row, count);
            kinds = new int[count];
            numbers = new int[count];
            Page last = pages > 0 && pages <= ahead.length ? ahead[pages - 1] : null;
            int seen = last == null ? 0 : last.unlike;
            for (int i = 0; i < count; i++) {
                kinds[i] = kindOf(texts[i]);
                int number = numberIn(ahead, pages, texts[i]);
                for (int j = 0; j < i && number == NONE; j++) {
                    number = texts[j] == texts[i] ? numbers[j] : NONE;
                }
                if (number == NONE) {
                    number = seen;
                    seen++;
                }
                numbers[i] = number;
            }
            unlike = seen;
        }

        private static int numberIn(Page[] ahead, int pages, long text) {
            for (int p = 0; p < pages && p < ahead.length; p++) {
                Page sheet = ahead[p];
                int size = sheet == null ? 0 : sheet.count;
                for (int i = 0; i < size; i++) {
                    if (sheet.texts[i] == text) {
                        return sheet.numbers[i];
                    }
                }
            }
            return NONE;
        }

        int kindAt(int at) {
            return at >= 0 && at < count ? kinds[at] : NONE;
        }

        /** A TOKEN as an ITEM: its KIND, or itself. */
        int itemAt(int at, boolean itself) {
            if (at < 0 || at >= count) {
                return NONE;
            }
            return itself ? KINDS + numbers[at] : kinds[at];
        }
    }

    /** MARKS, PAGES, what is LEARNT. */
    private static final class State {
        final Page[] pages = new Page[MOST_PAGES];
        final Learnt[] learnt = new Learnt[MOST_FIELDS];
        final long[] starts = new long[MOST_FIELDS * MOST_PAGES];
        final long[] ends = new long[MOST_FIELDS * MOST_PAGES];
        int pageCount;

        void copyFrom(State other) {
            for (int p = 0; p < MOST_PAGES; p++) {
                pages[p] = other.pages[p];
            }
            for (int f = 0; f < MOST_FIELDS; f++) {
                learnt[f] = other.learnt[f];
            }
            System.arraycopy(other.starts, 0, starts, 0, starts.length);
            System.arraycopy(other.ends, 0, ends, 0, ends.length);
            pageCount = other.pageCount;
        }

        void clear() {
            for (int p = 0; p < MOST_PAGES; p++) {
                pages[p] = null;
            }
            for (int f = 0; f < MOST_FIELDS; f++) {
                learnt[f] = null;
            }
            Arrays.fill(starts, 0L);
            Arrays.fill(ends, 0L);
            pageCount = 0;
        }

        void addPage(long[] row, int size) {
            if (pageCount < MOST_PAGES) {
                pages[pageCount] = new Page(row, size, pages, pageCount);
                pageCount++;
            }
        }

        Page pageAt(int page) {
            return page >= 0 && page < pageCount ? pages[page] : null;
        }

        int unlikeTokens() {
            Page last = pageAt(pageCount - 1);
            return last == null ? 0 : last.unlike;
        }

        boolean isExample(int page, int field) {
            return page >= 0 && page < pageCount && starts[spotOf(page, field)] != 0;
        }

        int examplesOf(int field) {
            int set = 0;
            for (int p = 0; p < pageCount; p++) {
                if (isExample(p, field)) {
                    set |= 1 << p;
                }
            }
            return set;
        }

        int partCount() {
            int parts = 0;
            for (int s = 0; s < starts.length; s++) {
                parts += Long.bitCount(starts[s]);
            }
            return parts;
        }

        int learntFields() {
            int set = 0;
            for (int f = 0; f < MOST_FIELDS; f++) {
                if (learnt[f] != null) {
                    set |= 1 << f;
                }
            }
            return set;
        }
    }

    /** The states ahead of and behind each kept ACT, in a ring. */
    private static final class History {
        private final State[] ring = new State[MOST_ACTS + 1];
        private int oldest;
        int done;
        int undone;

        History() {
            for (int s = 0; s < ring.length; s++) {
                ring[s] = new State();
            }
        }

        private State stateAt(int age) {
            return ring[Math.floorMod(oldest + age, ring.length)];
        }

        State now() {
            return stateAt(done);
        }

        /** An ACT begins: a state like the one now, to be changed. */
        State begin() {
            State ahead = now();
            if (done < MOST_ACTS) {
                done++;
            } else {
                oldest = (oldest + 1) % ring.length;
            }
            undone = 0;
            State fresh = now();
            fresh.copyFrom(ahead);
            return fresh;
        }

        boolean stepBack() {
            if (done == 0) {
                return false;
            }
            done--;
            undone++;
            return true;
        }

        boolean stepOn() {
            if (undone == 0) {
                return false;
            }
            done++;
            undone--;
            return true;
        }

        /** No ACTS are kept; all is as in a state, or empty. */
        void restart(State from) {
            done = 0;
            undone = 0;
            if (from == null) {
                now().clear();
            } else {
                now().copyFrom(from);
            }
        }
    }

    /** A PAGE laid out: where each ITEM stands on it, its REGION, and what a RULE cuts there. */
    private static final class Ground {
        private final long[] places = new long[MOST_ITEMS];
        int begin;
        int end;
        long starts;
        long ends;
        private int from;
        private int to;

        void lay(Page page, int leftOut) {
            Arrays.fill(places, 0L);
            int size = page == null ? 0 : page.count;
            int at = 0;
            for (int i = 0; i < size; i++) {
                if (i != leftOut) {
                    stand(page.itemAt(i, false), at);
                    stand(page.itemAt(i, true), at);
                    at++;
                }
            }
            within(0, at);
        }

        private void stand(int item, int at) {
            if (item >= 0 && item < MOST_ITEMS) {
                places[item] |= 1L << at;
            }
        }

        /** Lays an EXAMPLE out: its REGION is all of it, or its PARENT's MARK. */
        void layMarked(State state, int page, int parent) {
            lay(state.pageAt(page), NONE);
            if (parent != NONE) {
                int spot = spotOf(page, parent);
                boolean there = state.starts[spot] != 0;
                within(there ? lowest(state.starts[spot]) : 0, there ? lowest(state.ends[spot]) : 0);
            }
        }

        void within(int first, int behind) {
            begin = first;
            end = behind;
        }

        /** Whether an ITEM doesn't stand in the REGION ahead of a place of it. */
        boolean isNewAt(int item, int at) {
            if (item < 0 || item >= MOST_ITEMS) {
                return false;
            }
            return (places[item] & (1L << at) - (1L << begin)) == 0;
        }

        /** Where an ITEM stands from a place of the REGION on. */
        private long standing(int item, int since) {
            if (item < 0 || item >= MOST_ITEMS || since >= end) {
                return 0;
            }
            return places[item] & (1L << end) - (1L << since);
        }

        /** Cuts the REGION by the first LEARNT RULE that is not SILENT; which one, NONE if none. */
        int sliceBy(Learnt learnt, boolean many) {
            starts = 0;
            ends = 0;
            int count = learnt == null ? 0 : learnt.rules.length;
            for (int k = 0; k < count; k++) {
                slice(learnt.rules[k], many);
                if (starts != 0) {
                    return k;
                }
            }
            return NONE;
        }

        /** Cuts the REGION by a RULE. */
        void slice(long rule, boolean many) {
            starts = 0;
            ends = 0;
            int most = many ? MOST_PARTS : 1;
            to = begin;
            for (int k = 0; k < most; k++) {
                if (!findPart(rule, to)) {
                    return;
                }
                starts |= 1L << from;
                ends |= 1L << to;
            }
        }

        private boolean findPart(long rule, int since) {
            from = since;
            int far = itemOf(rule, 0);
            if (far != NONE) {
                long found = standing(far, from);
                if (found == 0) {
                    return false;
                }
                from = lowest(found) + 1;
            }
            int near = itemOf(rule, 1);
            if (near != NONE) {
                int second = itemOf(rule, 2);
                long found = standing(near, from);
                if (second != NONE) {
                    found &= standing(second, from) >>> 1;
                }
                if (found == 0) {
                    return false;
                }
                from = lowest(found) + (second == NONE ? 1 : 2);
            }
            int stop = itemOf(rule, 3);
            long stops = stop == NONE ? 1L << end : standing(stop, from + 1);
            to = lowest(stops);
            return from < end && stops != 0;
        }

        /** What a RULE that cut this was, if these are the MARK's parts. */
        int verdict(long markStarts, long markEnds) {
            if (starts == 0) {
                return SILENT;
            }
            return starts == markStarts && ends == markEnds ? RIGHT : WRONG;
        }
    }

    /** The RULES that can be of a FIELD, in their order, and what each is on its EXAMPLES. */
    private static final class Table {
        boolean fresh;
        int count;
        long[] rules = new long[64];
        /** EXAMPLES by which a RULE can be. */
        int[] born = new int[64];
        int[] right = new int[64];
        int[] wrong = new int[64];
        private long[] pile = new long[64];
        private long[] spare = new long[64];
        private int piled;

        void collect(State state, Fields fields, int field, Ground ground) {
            piled = 0;
            for (int p = 0; p < state.pageCount; p++) {
                Page page = state.pageAt(p);
                if (page != null && state.isExample(p, field)) {
                    ground.layMarked(state, p, fields.parents[field]);
                    int from = lowest(state.starts[spotOf(p, field)]);
                    int to = lowest(state.ends[spotOf(p, field)]);
                    pileRules(page, ground, from, to, 1 << p);
                }
            }
            sortPile();
            takeUnlike();
        }

        /** All RULES by an EXAMPLE whose MARK's first part is from .. to - 1. */
        private void pileRules(Page page, Ground ground, int from, int to, int bit) {
            int stops = to < ground.end ? 3 : 1;
            for (int ahead = 0; ahead <= 2 && from - ahead >= ground.begin; ahead++) {
                for (int form = 0; form < 1 << ahead; form++) {
                    int near = ahead == 0 ? NONE : page.itemAt(from - ahead, (form & 1) != 0);
                    int second = ahead < 2 ? NONE : page.itemAt(from - 1, (form & 2) != 0);
                    for (int s = 0; s < stops; s++) {
                        int stop = s == 0 ? NONE : page.itemAt(to, s == 2);
                        long rule = ruleOf(NONE, near, second, stop);
                        pileFars(rule, page, ground, from - ahead, bit);
                    }
                }
            }
        }

        /** A RULE without FAR, and it with each FAR that stands ahead of a limit. */
        private void pileFars(long rule, Page page, Ground ground, int limit, int bit) {
            pileUp(rule, bit);
            for (int i = ground.begin; i < limit; i++) {
                int kind = page.itemAt(i, false);
                if (ground.isNewAt(kind, i)) {
                    pileUp(withFar(rule, kind), bit);
                }
                int itself = page.itemAt(i, true);
                if (ground.isNewAt(itself, i)) {
                    pileUp(withFar(rule, itself), bit);
                }
            }
        }

        /** The EXAMPLE's bit comes below the RULE, so that like RULES will lie side by side. */
        private void pileUp(long rule, int bit) {
            if (piled >= pile.length) {
                pile = Arrays.copyOf(pile, 2 * piled);
                spare = new long[2 * piled];
            }
            pile[piled] = rule << MOST_PAGES | bit;
            piled++;
        }

        private void sortPile() {
            for (int run = 1; run < piled; run *= 2) {
                for (int low = 0; low < piled; low += 2 * run) {
                    merge(low, Math.min(low + run, piled), Math.min(low + 2 * run, piled));
                }
                long[] sorted = spare;
                spare = pile;
                pile = sorted;
            }
        }

        private void merge(int low, int middle, int high) {
            int a = low;
            int b = middle;
            for (int i = low; i < high; i++) {
                if (b >= high || a < middle && pile[a] <= pile[b]) {
                    spare[i] = pile[a];
                    a++;
                } else {
                    spare[i] = pile[b];
                    b++;
                }
            }
        }

        private void takeUnlike() {
            makeRoom(piled);
            count = 0;
            for (int i = 0; i < piled; i++) {
                long rule = pile[i] >> MOST_PAGES;
                int bit = (int) (pile[i] & (PAGE_SETS - 1));
                if (count > 0 && rules[count - 1] == rule) {
                    born[count - 1] |= bit;
                } else {
                    rules[count] = rule;
                    born[count] = bit;
                    count++;
                }
            }
        }

        private void makeRoom(int size) {
            if (size > rules.length) {
                int room = Math.max(size, 2 * rules.length);
                rules = new long[room];
                born = new int[room];
                right = new int[room];
                wrong = new int[room];
            }
        }

        void judge(State state, Fields fields, int field, Ground ground) {
            Arrays.fill(right, 0);
            Arrays.fill(wrong, 0);
            for (int p = 0; p < state.pageCount; p++) {
                if (state.isExample(p, field)) {
                    int spot = spotOf(p, field);
                    ground.layMarked(state, p, fields.parents[field]);
                    for (int i = 0; i < count; i++) {
                        ground.slice(rules[i], fields.many[field]);
                        int verdict = ground.verdict(state.starts[spot], state.ends[spot]);
                        right[i] |= verdict == RIGHT ? 1 << p : 0;
                        wrong[i] |= verdict == WRONG ? 1 << p : 0;
                    }
                }
            }
        }

        int goodOnes() {
            int good = 0;
            for (int i = 0; i < count; i++) {
                if (wrong[i] == 0) {
                    good++;
                }
            }
            return good;
        }
    }

    /** The COVER by some EXAMPLES of a FIELD alone. */
    private static final class Cover {
        /** Of the RULES that are RIGHT on the same set of EXAMPLES only the first can be of use. */
        private final int[] first = new int[PAGE_SETS];
        private final int[] pick = new int[PAGE_SETS];
        private final int[] sizes = new int[PAGE_SETS];
        private final int[] costs = new int[PAGE_SETS];
        final int[] row = new int[MOST_PAGES];
        int count;
        int cost;
        int hopeless;

        void solve(Table table, int among) {
            int coverable = findFirsts(table, among);
            hopeless = among & ~coverable;
            for (int set = 1; set < PAGE_SETS; set++) {
                if ((set & ~coverable) == 0) {
                    pickFor(table, set);
                }
            }
            cost = coverable == 0 ? 0 : costs[coverable];
            count = 0;
            int rest = coverable;
            while (rest != 0 && count < MOST_PAGES) {
                row[count] = first[pick[rest]];
                count++;
                rest &= ~pick[rest];
            }
        }

        private int findFirsts(Table table, int among) {
            Arrays.fill(first, NONE);
            int coverable = 0;
            for (int i = 0; i < table.count; i++) {
                boolean good = (table.born[i] & among) != 0 && (table.wrong[i] & among) == 0;
                int on = table.right[i] & among;
                if (good && on != 0 && first[on] == NONE) {
                    first[on] = i;
                    coverable |= on;
                }
            }
            return coverable;
        }

        /** The best RULE, by the set on which it is RIGHT, to begin a row that covers a set. */
        private void pickFor(Table table, int set) {
            int lowestBit = set & -set;
            sizes[set] = MOST_PAGES + 1;
            for (int on = 1; on < PAGE_SETS; on++) {
                if ((on & lowestBit) != 0 && first[on] != NONE) {
                    int rest = set & ~on;
                    int size = 1 + (rest == 0 ? 0 : sizes[rest]);
                    int sum = costOf(table.rules[first[on]]) + (rest == 0 ? 0 : costs[rest]);
                    if (isBetter(set, size, sum, first[on])) {
                        sizes[set] = size;
                        costs[set] = sum;
                        pick[set] = on;
                    }
                }
            }
        }

        private boolean isBetter(int set, int size, int sum, int rule) {
            if (size != sizes[set]) {
                return size < sizes[set];
            }
            if (sum != costs[set]) {
                return sum < costs[set];
            }
            return rule < first[pick[set]];
        }

        /** Whether the first RULE of the row that is not SILENT is RIGHT on each of some EXAMPLES. */
        boolean isRightOn(Table table, int examples) {
            int open = examples;
            for (int k = 0; k < count; k++) {
                if ((open & table.wrong[row[k]]) != 0) {
                    return false;
                }
                open &= ~table.right[row[k]];
            }
            return open == 0;
        }
    }

    /** What is LEARNT of a FIELD: it never changes, so states and images share it. */
    private static final class Learnt {
        final long[] rules;
        final int[] pattern;
        int fewest = MOST_TOKENS;
        int most;
        int firsts;
        int lasts;

        Learnt(Table table, Cover cover, State state, int field) {
            rules = new long[Math.max(0, cover.count)];
            for (int k = 0; k < rules.length; k++) {
                rules[k] = table.rules[cover.row[k]];
            }
            for (int p = 0; p < state.pageCount; p++) {
                int spot = spotOf(p, field);
                measure(state.pageAt(p), state.starts[spot], state.ends[spot]);
            }
            pattern = new int[Math.max(0, fewest)];
            Arrays.fill(pattern, NONE);
            for (int p = 0; p < state.pageCount; p++) {
                weave(state.pageAt(p), state.starts[spotOf(p, field)]);
            }
        }

        private void measure(Page page, long starts, long ends) {
            int parts = Long.bitCount(starts);
            for (int i = 0; i < parts && page != null; i++) {
                int from = nth(starts, i);
                int to = nth(ends, i);
                fewest = Math.min(fewest, to - from);
                most = Math.max(most, to - from);
                firsts |= 1 << page.kindAt(from);
                lasts |= 1 << page.kindAt(to - 1);
            }
        }

        private void weave(Page page, long starts) {
            int parts = Long.bitCount(starts);
            for (int i = 0; i < parts && page != null; i++) {
                int from = nth(starts, i);
                for (int place = 0; place < pattern.length; place++) {
                    int kind = page.kindAt(from + place);
                    boolean fits = pattern[place] == NONE || pattern[place] == kind;
                    pattern[place] = fits ? kind : KINDS;
                }
            }
        }

        boolean isLike(Learnt other) {
            if (rules.length != other.rules.length || pattern.length != other.pattern.length) {
                return false;
            }
            for (int k = 0; k < rules.length; k++) {
                if (rules[k] != other.rules[k]) {
                    return false;
                }
            }
            for (int place = 0; place < pattern.length; place++) {
                if (pattern[place] != other.pattern[place]) {
                    return false;
                }
            }
            boolean lengths = fewest == other.fewest && most == other.most;
            return lengths && firsts == other.firsts && lasts == other.lasts;
        }

        /** The least DRIFT of 2 to 5 that one of the parts has, 0 if none has. */
        int misfit(Page page, long starts, long ends) {
            int parts = Long.bitCount(starts);
            int found = 0;
            for (int i = 0; i < parts && page != null; i++) {
                int one = misfitOf(page, nth(starts, i), nth(ends, i));
                if (one != 0 && (found == 0 || one < found)) {
                    found = one;
                }
            }
            return found;
        }

        private int misfitOf(Page page, int from, int to) {
            if (to - from < fewest || to - from > most) {
                return 2;
            }
            if ((firsts >> page.kindAt(from) & 1) == 0) {
                return 3;
            }
            if ((lasts >> page.kindAt(to - 1) & 1) == 0) {
                return 4;
            }
            for (int place = 0; place < pattern.length; place++) {
                if (pattern[place] != KINDS && pattern[place] != page.kindAt(from + place)) {
                    return 5;
                }
            }
            return 0;
        }
    }

    /** OPINIONS of a PAGE in a FIELD and their VOTES, by the order of their first RULES. */
    private static final class Tally {
        int page = NONE;
        int field = NONE;
        int count;
        long[] starts = new long[64];
        long[] ends = new long[64];
        int[] votes = new int[64];

        void forget() {
            page = NONE;
            field = NONE;
        }

        /** Of an empty REGION no RULE cuts a part: so all vote for none where there is no REGION. */
        void countAll(Table table, Ground ground, boolean many) {
            count = 0;
            for (int i = 0; i < table.count; i++) {
                if (table.wrong[i] == 0 && table.right[i] != 0) {
                    ground.slice(table.rules[i], many);
                    vote(ground.starts, ground.ends);
                }
            }
        }

        private void vote(long some, long behind) {
            int k = 0;
            while (k < count && (starts[k] != some || ends[k] != behind)) {
                k++;
            }
            if (k == count) {
                makeRoom();
                starts[k] = some;
                ends[k] = behind;
                votes[k] = 0;
                count++;
            }
            votes[k]++;
        }

        private void makeRoom() {
            if (count >= starts.length) {
                starts = Arrays.copyOf(starts, 2 * count);
                ends = Arrays.copyOf(ends, 2 * count);
                votes = Arrays.copyOf(votes, 2 * count);
            }
        }

        /** The OPINION with the most VOTES; if a SHAPE is given, of those with parts that fit it. */
        int strongest(Learnt learnt, Page sheet) {
            int best = NONE;
            for (int k = 0; k < count; k++) {
                boolean counts = learnt == null || starts[k] != 0 && learnt.misfit(sheet, starts[k], ends[k]) == 0;
                if (counts && (best == NONE || votes[k] > votes[best])) {
                    best = k;
                }
            }
            return best;
        }
    }

    /** What is CUT, spelt. */
    private static final class Letters {
        private final byte[] bytes = new byte[MOST_TOKENS * 9];
        int count;

        void spell(Page page, int leftOut, long starts, long ends) {
            count = 0;
            int parts = Long.bitCount(starts);
            for (int i = 0; i < parts && page != null; i++) {
                int to = nth(ends, i);
                for (int at = nth(starts, i); at < to; at++) {
                    if (count > 0) {
                        put((starts >> at & 1) != 0 ? '/' : ' ');
                    }
                    int place = leftOut != NONE && at >= leftOut ? at + 1 : at;
                    putText(place < page.count ? page.texts[place] : 0);
                }
            }
        }

        private void putText(long text) {
            for (int shift = 56; shift >= 0; shift -= 8) {
                if ((text >>> shift) != 0) {
                    put((int) (text >>> shift & 255));
                }
            }
        }

        private void put(int sign) {
            if (count < bytes.length) {
                bytes[count] = (byte) sign;
                count++;
            }
        }

        int at(int i) {
            return i >= 0 && i < count ? bytes[i] & 255 : NONE;
        }

        boolean isLike(Letters other) {
            if (count != other.count) {
                return false;
            }
            for (int i = 0; i < count; i++) {
                if (bytes[i] != other.bytes[i]) {
                    return false;
                }
            }
            return true;
        }
    }

    /** Reads a BOOK, or one PAGE, TOKEN by TOKEN, up to its first FAULT. */
    private static final class Reader {
        private static final int WORD = 0;
        private static final int NUMBER = 1;
        private static final int SIGN = 2;
        private static final int OVER = 3;
        private static final int BAD = 4;

        // Words as their bytes, packed.
        private static final long FIELD = 0x6669656c64L;
        private static final long PAGE = 0x70616765L;
        private static final long OF = 0x6f66L;
        private static final long MANY = 0x6d616e79L;
        private static final long END = 0x656e64L;

        final long[][] rows = new long[MOST_PAGES][MOST_TOKENS];
        final int[] counts = new int[MOST_PAGES];
        int pageCount;
        Fields fields = new Fields();
        int fault;
        int place;

        private byte[] text = new byte[0];
        private int length;
        private int at;
        private int behind;
        private int kind;
        private long bytes;

        boolean readBook(byte[] tape, int size) {
            open(tape, size);
            for (int line = 0; line < MOST_BYTES && fault == 0 && kind != OVER; line++) {
                if (isWord(FIELD) && fields.count < MOST_FIELDS) {
                    readField();
                } else if (isWord(PAGE) && pageCount < MOST_PAGES) {
                    readPage();
                } else {
                    refuse(2);
                }
            }
            return fault == 0;
        }

        boolean readOnePage(byte[] tape, int size) {
            open(tape, size);
            if (!isWord(PAGE)) {
                refuse(2);
                return false;
            }
            readPage();
            if (fault == 0 && kind != OVER) {
                refuse(2);
            }
            return fault == 0;
        }

        private void open(byte[] tape, int size) {
            text = tape;
            length = Math.min(size, tape.length);
            behind = 0;
            fault = 0;
            place = NONE;
            pageCount = 0;
            fields = new Fields();
            step();
        }

        private void refuse(int what) {
            fault = kind == BAD ? 1 : what;
            place = at;
        }

        private void readField() {
            step();
            if (!isName()) {
                refuse(2);
                return;
            }
            if (fields.find(bytes) != NONE) {
                refuse(3);
                return;
            }
            long name = bytes;
            int parent = NONE;
            step();
            if (isWord(OF)) {
                step();
                parent = readParent();
            }
            if (fault == 0) {
                readRest(name, parent);
            }
        }

        private int readParent() {
            if (!isName()) {
                refuse(2);
                return NONE;
            }
            int parent = fields.find(bytes);
            if (parent == NONE || fields.many[parent]) {
                refuse(3);
                return NONE;
            }
            step();
            return parent;
        }

        private void readRest(long name, int parent) {
            boolean many = isWord(MANY);
            if (many) {
                step();
            }
            if (!isSemicolon()) {
                refuse(2);
                return;
            }
            fields.add(name, parent, many);
            step();
        }

        private void readPage() {
            int size = 0;
            step();
            while (size < MOST_TOKENS && isOfPage()) {
                rows[pageCount][size] = bytes;
                size++;
                step();
            }
            if (size == 0 || !isWord(END)) {
                refuse(2);
                return;
            }
            step();
            if (!isSemicolon()) {
                refuse(2);
                return;
            }
            counts[pageCount] = size;
            pageCount++;
            step();
        }

        private boolean isWord(long word) {
            return kind == WORD && bytes == word;
        }

        private boolean isSemicolon() {
            return kind == SIGN && bytes == ';';
        }

        private boolean isOfPage() {
            return kind <= SIGN && !isWord(END) && !isSemicolon();
        }

        private boolean isName() {
            if (kind != WORD || behind - at > 7) {
                return false;
            }
            return bytes != FIELD && bytes != PAGE && bytes != OF && bytes != MANY && bytes != END;
        }

        /** The next TOKEN, from at to behind. */
        private void step() {
            at = behind;
            while (at < length && (text[at] == ' ' || text[at] == '\n')) {
                at++;
            }
            behind = at;
            bytes = 0;
            if (at >= length) {
                kind = OVER;
            } else if (isLetter(text[at])) {
                takeLetters();
            } else if (isDigit(text[at])) {
                takeDigits();
            } else {
                kind = isSign(text[at]) ? SIGN : BAD;
                bytes = text[at];
                behind = at + 1;
            }
        }

        private void takeLetters() {
            int i = at;
            while (i < length && isLetter(text[i])) {
                bytes = bytes << 8 | text[i];
                i++;
            }
            behind = i;
            kind = behind - at <= 8 ? WORD : BAD;
        }

        private void takeDigits() {
            int i = at;
            while (i < length && isDigit(text[i])) {
                bytes = bytes << 8 | text[i];
                i++;
            }
            behind = i;
            boolean letterBehind = i < length && isLetter(text[i]);
            kind = behind - at <= 4 && !letterBehind ? NUMBER : BAD;
        }

        private static boolean isSign(int sign) {
            switch (sign) {
                case '.':
                case ':':
                case ',':
                case '-':
                case '/':
                case '#':
                case '=':
                case '+':
                case ';':
                    return true;
                default:
                    return false;
            }
        }
    }
}
