/**
 * Health checks of a disk that work only while the host is quiet.
 *
 * The rows of every state are made once, by the constructor, and are copied into afterwards: no call makes an object.
 */
public final class QuietChecks {
    public static final int NO_SUCH = -1;
    public static final int BAD_VALUE = -2;
    public static final int NOT_POSSIBLE = -3;
    public static final int LIMIT = -4;
    public static final int BAD_TEXT = -5;
    public static final int NONE = -6;

    private static final int SPANS = 8;
    private static final int MAX_SPOTS = 20;
    private static final int FIRST_SPARES = 6;
    private static final int MAX_SPARES = 50;
    private static final int MAX_ASKED = 6;
    private static final int MAX_SAVED = 6;
    private static final int MAX_ENTRIES = 10;
    private static final int MAX_TEXT = 80;
    private static final int MAX_TICK = 99999;
    private static final int MAX_FORECAST = 3000;

    /** More than fit in a text: the shortest command and its semicolon have 6 characters. */
    private static final int MAX_COMMANDS = 16;

    private static final int SETTINGS = 5;
    private static final int WAIT_SETTING = 0;
    private static final int SPAN_SETTING = 1;
    private static final int TRY_SETTING = 2;
    private static final int LIMIT_SETTING = 3;
    private static final int AGE_SETTING = 4;
    private static final int[] LOWEST_SETTING = {0, 1, 1, 2, 50};
    private static final int[] HIGHEST_SETTING = {50, 40, 9, 9, 2000};
    private static final int[] FIRST_SETTING = {5, 10, 3, 5, 400};

    private static final int WAYS = 3;
    private static final int OLDEST_WAY = 0;
    private static final int WORST_WAY = 1;
    private static final int ROW_WAY = 2;

    private static final int BEGINS = 1;
    private static final int PAUSES = 2;
    private static final int ENDS = 3;
    private static final int REPLACED = 4;
    private static final int STAYS = 5;
    private static final int SLOW = 6;

    private static final int READ_COMMAND = 1;
    private static final int QUIET_COMMAND = 2;
    private static final int ASK_COMMAND = 3;
    private static final int SPOT_COMMAND = 4;
    private static final int WAY_COMMAND = 5;

    private static final int COUNT_NUMBERS = 13;
    private static final int SPAN_NUMBERS = 7;
    private static final int ENTRY_NUMBERS = 4;

    private final Disk disk;
    private final Disk trial;
    private final History history;
    private final Plan plan;
    private final StringBuilder line;

    public QuietChecks() {
        disk = new Disk();
        trial = new Disk();
        history = new History();
        plan = new Plan();
        line = new StringBuilder();
    }

    // ---- settings

    public int set(int setting, int value) {
        history.draft(disk);
        return history.keep(disk.changeSetting(setting, value));
    }

    public int setWay(int way) {
        history.draft(disk);
        return history.keep(disk.changeWay(way));
    }

    public int addSpares(int spares) {
        history.draft(disk);
        return history.keep(disk.takeSpares(spares));
    }

    // ---- what happens

    public int spot(int span, int tries) {
        history.draft(disk);
        return history.keep(disk.takeSpot(span, tries));
    }

    public int ask(int span) {
        history.draft(disk);
        return history.keep(disk.askByHand(span));
    }

    public int unask(int span) {
        history.draft(disk);
        return history.keep(disk.withdraw(span));
    }

    public int read(int span, int ticks) {
        history.draft(disk);
        return history.keep(disk.hostReads(span, ticks));
    }

    public int quiet(int ticks) {
        history.draft(disk);
        return history.keep(disk.passQuietTicks(ticks));
    }

    public int giveUp() {
        history.draft(disk);
        return history.keep(disk.dropCheck());
    }

    // ---- asking

    public int count(int what) {
        if (what < 0 || what >= COUNT_NUMBERS) {
            return BAD_VALUE;
        }
        return disk.numberOfDisk(what);
    }

    public int setting(int setting) {
        if (!isSetting(setting)) {
            return NO_SUCH;
        }
        return disk.settings[setting];
    }

    public int span(int span, int what) {
        if (!isSpan(span)) {
            return NO_SUCH;
        }
        if (what < 0 || what >= SPAN_NUMBERS) {
            return BAD_VALUE;
        }
        return disk.numberOfSpan(span, what);
    }

    public int tries(int span, int index) {
        if (!isSpan(span)) {
            return NO_SUCH;
        }
        return disk.spots.triesAt(span, index);
    }

    public int entries() {
        return disk.log.size;
    }

    public int entry(int index, int what) {
        if (!disk.log.has(index)) {
            return NO_SUCH;
        }
        if (what < 0 || what >= ENTRY_NUMBERS) {
            return BAD_VALUE;
        }
        switch (what) {
            case 0:
                return disk.log.tickAt(index);
            case 1:
                return disk.log.kindAt(index);
            case 2:
                return disk.log.spanAt(index);
            default:
                writeLine(index);
                return line.length();
        }
    }

    public int lineAt(int index, int place) {
        if (!disk.log.has(index)) {
            return NO_SUCH;
        }
        writeLine(index);
        if (place < 0 || place >= line.length()) {
            return NO_SUCH;
        }
        return line.charAt(place);
    }

    public int overdue() {
        return disk.overdueSpans();
    }

    // ---- forecasts; they change nothing

    public int nextCheck() {
        return disk.chooseSpan();
    }

    public int checkedIn(int span) {
        if (!isSpan(span)) {
            return NO_SUCH;
        }
        trial.copyFrom(disk);
        for (int ticks = 1; ticks <= MAX_FORECAST; ticks++) {
            if (trial.passQuietTick() == span) {
                return ticks;
            }
        }
        return NONE;
    }

    public int ifQuiet(int ticks) {
        if (ticks < 0 || ticks > MAX_FORECAST) {
            return BAD_VALUE;
        }
        return overdueAfter(ticks, disk.way);
    }

    public int bestWay(int ticks) {
        if (ticks < 0 || ticks > MAX_FORECAST) {
            return BAD_VALUE;
        }
        int best = 0;
        int fewest = overdueAfter(ticks, best);
        for (int way = 1; way < WAYS; way++) {
            int spans = overdueAfter(ticks, way);
            if (spans < fewest) {
                fewest = spans;
                best = way;
            }
        }
        return best;
    }

    // ---- text

    public int type(int code) {
        return plan.append(code);
    }

    public int clearText() {
        return plan.clear();
    }

    public int syntaxError() {
        return plan.findError();
    }

    public int carryOut() {
        if (plan.findError() != NONE) {
            return BAD_TEXT;
        }
        history.draft(disk);
        int found = plan.commands;
        int done = 0;
        while (done < found && doCommand(done) >= 0) {
            done++;
        }
        plan.clear();
        return history.keep(done);
    }

    // ---- undo

    public int undo() {
        return history.restore(disk);
    }

    public long digest() {
        long hash = 448;
        for (int what = 0; what < COUNT_NUMBERS; what++) {
            hash = 31 * hash + count(what);
        }
        for (int setting = 0; setting < SETTINGS; setting++) {
            hash = 31 * hash + setting(setting);
        }
        for (int span = 0; span < SPANS; span++) {
            hash = hashSpan(hash, span);
        }
        hash = 31 * hash + entries();
        for (int index = 0; index < disk.log.size; index++) {
            hash = hashEntry(hash, index);
        }
        hash = 31 * hash + overdue();
        return 31 * hash + nextCheck();
    }

    private long hashSpan(long start, int span) {
        long hash = start;
        for (int what = 0; what < SPAN_NUMBERS; what++) {
            hash = 31 * hash + span(span, what);
        }
        int found = disk.spots.sizeOf(span);
        for (int index = 0; index < found; index++) {
            hash = 31 * hash + tries(span, index);
        }
        return hash;
    }

    private long hashEntry(long start, int index) {
        long hash = 31 * start + disk.log.tickAt(index);
        hash = 31 * hash + disk.log.kindAt(index);
        hash = 31 * hash + disk.log.spanAt(index);
        writeLine(index);
        for (int place = 0; place < line.length(); place++) {
            hash = 31 * hash + line.charAt(place);
        }
        return hash;
    }

    private void writeLine(int index) {
        line.setLength(0);
        line.append(disk.log.tickAt(index));
        line.append(' ');
        line.append(wordOf(disk.log.kindAt(index)));
        line.append(' ');
        line.append(disk.log.spanAt(index));
    }

    private int overdueAfter(int ticks, int way) {
        trial.copyFrom(disk);
        trial.way = way;
        for (int i = 0; i < ticks; i++) {
            trial.passQuietTick();
        }
        return trial.overdueSpans();
    }

    private int doCommand(int index) {
        if (index < 0 || index >= MAX_COMMANDS) {
            return NO_SUCH;
        }
        int first = plan.firsts[index];
        int second = plan.seconds[index];
        switch (plan.kinds[index]) {
            case READ_COMMAND:
                return disk.hostReads(first, second);
            case QUIET_COMMAND:
                return disk.passQuietTicks(first);
            case ASK_COMMAND:
                return disk.askByHand(first);
            case SPOT_COMMAND:
                return disk.takeSpot(first, second);
            default:
                return disk.changeWay(first);
        }
    }

    private static boolean isSpan(int span) {
        return span >= 0 && span < SPANS;
    }

    private static boolean isSetting(int setting) {
        return setting >= 0 && setting < SETTINGS;
    }

    private static String wordOf(int kind) {
        switch (kind) {
            case BEGINS:
                return "begins";
            case PAUSES:
                return "pauses";
            case ENDS:
                return "ends";
            case REPLACED:
                return "replaced";
            case STAYS:
                return "stays";
            default:
                return "slow";
        }
    }

    /** All that a call can change and undo brings back. Its methods that can fail change nothing if they do. */
    private static final class Disk {
        private final int[] settings = new int[SETTINGS];
        private final int[] stamps = new int[SPANS];
        private final Spots spots = new Spots();
        private final Asked asked = new Asked();
        private final Log log = new Log();
        private int way = OLDEST_WAY;
        private int spares = FIRST_SPARES;
        private int tick = 0;
        private int quietTicks = 0;
        private int checkSpan = NONE;
        private int checkDone = 0;
        private int checkTicks = 0;
        private int rowStart = 0;
        private int ended = 0;
        private int pauses = 0;
        private int replaced = 0;
        private int slowReads = 0;

        Disk() {
            System.arraycopy(FIRST_SETTING, 0, settings, 0, SETTINGS);
        }

        void copyFrom(Disk other) {
            System.arraycopy(other.settings, 0, settings, 0, SETTINGS);
            System.arraycopy(other.stamps, 0, stamps, 0, SPANS);
            spots.copyFrom(other.spots);
            asked.copyFrom(other.asked);
            log.copyFrom(other.log);
            way = other.way;
            spares = other.spares;
            tick = other.tick;
            quietTicks = other.quietTicks;
            checkSpan = other.checkSpan;
            checkDone = other.checkDone;
            checkTicks = other.checkTicks;
            rowStart = other.rowStart;
            ended = other.ended;
            pauses = other.pauses;
            replaced = other.replaced;
            slowReads = other.slowReads;
        }

        int changeSetting(int setting, int value) {
            if (!isSetting(setting)) {
                return NO_SUCH;
            }
            if (value < LOWEST_SETTING[setting] || value > HIGHEST_SETTING[setting]) {
                return BAD_VALUE;
            }
            int previous = settings[setting];
            settings[setting] = value;
            return previous;
        }

        int changeWay(int newWay) {
            if (newWay < 0 || newWay >= WAYS) {
                return BAD_VALUE;
            }
            int previous = way;
            way = newWay;
            return previous;
        }

        int takeSpares(int more) {
            if (more < 1 || more > 9) {
                return BAD_VALUE;
            }
            if (spares + more > MAX_SPARES) {
                return LIMIT;
            }
            spares += more;
            return spares;
        }

        int takeSpot(int span, int tries) {
            if (!isSpan(span)) {
                return NO_SUCH;
            }
            if (tries < 1 || tries > 9) {
                return BAD_VALUE;
            }
            if (!spots.append(span, tries)) {
                return LIMIT;
            }
            return spots.sizeOf(span);
        }

        int askByHand(int span) {
            if (!isSpan(span)) {
                return NO_SUCH;
            }
            if (asked.placeOf(span) != NONE || span == checkSpan) {
                return NOT_POSSIBLE;
            }
            if (!asked.append(span)) {
                return LIMIT;
            }
            return asked.size - 1;
        }

        int withdraw(int span) {
            if (!isSpan(span)) {
                return NO_SUCH;
            }
            if (!asked.drop(span)) {
                return NOT_POSSIBLE;
            }
            return asked.size;
        }

        int hostReads(int span, int ticks) {
            if (!isSpan(span)) {
                return NO_SUCH;
            }
            if (ticks < 1 || ticks > 200) {
                return BAD_VALUE;
            }
            if (tick + ticks > MAX_TICK) {
                return LIMIT;
            }
            quietTicks = 0;
            tick += ticks;
            if (checkSpan != NONE) {
                pauseCheck();
            }
            if (!spots.hasWeak(span, settings[LIMIT_SETTING])) {
                return 0;
            }
            slowReads++;
            log.append(tick, SLOW, span);
            // A refusal is due here if the span waits already, is being checked, or finds the list full.
            askByHand(span);
            return 1;
        }

        int passQuietTicks(int ticks) {
            if (ticks < 1 || ticks > 500) {
                return BAD_VALUE;
            }
            if (tick + ticks > MAX_TICK) {
                return LIMIT;
            }
            int before = ended;
            for (int i = 0; i < ticks; i++) {
                passQuietTick();
            }
            return ended - before;
        }

        /** Returns the span whose check ends at this tick, or NONE. Forecasts may go beyond the last tick. */
        int passQuietTick() {
            tick++;
            if (quietTicks < settings[WAIT_SETTING]) {
                quietTicks++;
                return NONE;
            }
            if (checkSpan == NONE) {
                beginCheck(chooseSpan());
            }
            if (checkSpan == NONE) {
                return NONE;
            }
            checkDone++;
            if (checkDone < checkTicks) {
                return NONE;
            }
            int span = checkSpan;
            endCheck(span);
            return span;
        }

        int dropCheck() {
            if (checkSpan == NONE) {
                return NOT_POSSIBLE;
            }
            int done = checkDone;
            clearCheck();
            return done;
        }

        /** The span whose check comes next if none has begun, or NONE. */
        int chooseSpan() {
            if (asked.size > 0) {
                return asked.spans[0];
            }
            int start = way == ROW_WAY ? rowStart : 0;
            int best = NONE;
            int bestRank = -1;
            for (int i = 0; i < SPANS; i++) {
                int span = (start + i) % SPANS;
                if (isDue(span) && rankOf(span) > bestRank) {
                    best = span;
                    bestRank = rankOf(span);
                }
            }
            return best;
        }

        /** Of equal ranks the first one counts, so that one rank for all is enough for the row. */
        private int rankOf(int span) {
            switch (way) {
                case OLDEST_WAY:
                    return ageOf(span);
                case WORST_WAY:
                    return spots.sumOf(span, 9);
                default:
                    return 0;
            }
        }

        private void beginCheck(int span) {
            if (!isSpan(span)) {
                return;
            }
            asked.drop(span);
            checkSpan = span;
            checkDone = 0;
            checkTicks = ticksOfCheck(span);
            log.append(tick, BEGINS, span);
        }

        private void pauseCheck() {
            checkDone = Math.max(0, checkDone - 2);
            pauses++;
            log.append(tick, PAUSES, checkSpan);
        }

        private void clearCheck() {
            checkSpan = NONE;
            checkDone = 0;
            checkTicks = 0;
        }

        private void endCheck(int span) {
            if (!isSpan(span)) {
                return;
            }
            clearCheck();
            stamps[span] = tick;
            rowStart = (span + 1) % SPANS;
            ended++;
            log.append(tick, ENDS, span);
            int found = spots.size;
            spots.size = 0;
            for (int i = 0; i < found && i < MAX_SPOTS; i++) {
                lookAtSpot(span, spots.spans[i], spots.tries[i]);
            }
        }

        /** Spots that do not go are put back in their order; the row is long enough, for it held them before. */
        private void lookAtSpot(int span, int spotSpan, int tries) {
            if (spotSpan != span) {
                spots.append(spotSpan, tries);
            } else if (tries < settings[LIMIT_SETTING]) {
                spots.append(spotSpan, tries + 1);
            } else if (spares > 0) {
                spares--;
                replaced++;
                log.append(tick, REPLACED, span);
            } else {
                spots.append(spotSpan, tries);
                log.append(tick, STAYS, span);
            }
        }

        int overdueSpans() {
            int found = 0;
            for (int span = 0; span < SPANS; span++) {
                if (isOverdue(span)) {
                    found++;
                }
            }
            return found;
        }

        private int ageOf(int span) {
            if (!isSpan(span)) {
                return 0;
            }
            return tick - stamps[span];
        }

        private boolean isOverdue(int span) {
            return ageOf(span) > settings[AGE_SETTING];
        }

        private boolean isDue(int span) {
            return ageOf(span) >= settings[AGE_SETTING] / 2;
        }

        private int ticksOfCheck(int span) {
            return settings[SPAN_SETTING] + settings[TRY_SETTING] * spots.sumOf(span, settings[LIMIT_SETTING]);
        }

        int numberOfDisk(int what) {
            switch (what) {
                case 0:
                    return tick;
                case 1:
                    return quietTicks;
                case 2:
                    return spots.size;
                case 3:
                    return spares;
                case 4:
                    return way;
                case 5:
                    return checkSpan;
                case 6:
                    return checkDone;
                case 7:
                    return checkTicks;
                case 8:
                    return asked.size;
                case 9:
                    return ended;
                case 10:
                    return pauses;
                case 11:
                    return replaced;
                default:
                    return slowReads;
            }
        }

        int numberOfSpan(int span, int what) {
            if (!isSpan(span)) {
                return NO_SUCH;
            }
            switch (what) {
                case 0:
                    return stamps[span];
                case 1:
                    return ageOf(span);
                case 2:
                    return spots.sizeOf(span);
                case 3:
                    return spots.sumOf(span, 9);
                case 4:
                    return isOverdue(span) ? 2 : isDue(span) ? 1 : 0;
                case 5:
                    return ticksOfCheck(span);
                default:
                    return asked.placeOf(span);
            }
        }
    }

    /** The spots of all spans in the order in which they were added. */
    private static final class Spots {
        private final int[] spans = new int[MAX_SPOTS];
        private final int[] tries = new int[MAX_SPOTS];
        private int size = 0;

        void copyFrom(Spots other) {
            System.arraycopy(other.spans, 0, spans, 0, MAX_SPOTS);
            System.arraycopy(other.tries, 0, tries, 0, MAX_SPOTS);
            size = other.size;
        }

        boolean append(int span, int triesOfSpot) {
            if (size >= MAX_SPOTS) {
                return false;
            }
            spans[size] = span;
            tries[size] = triesOfSpot;
            size++;
            return true;
        }

        int sizeOf(int span) {
            int found = 0;
            for (int i = 0; i < size; i++) {
                if (spans[i] == span) {
                    found++;
                }
            }
            return found;
        }

        /** Of each spot no more than so many tries are counted. */
        int sumOf(int span, int most) {
            int sum = 0;
            for (int i = 0; i < size; i++) {
                if (spans[i] == span) {
                    sum += Math.min(tries[i], most);
                }
            }
            return sum;
        }

        int triesAt(int span, int index) {
            int passed = 0;
            for (int i = 0; i < size; i++) {
                if (spans[i] == span) {
                    if (passed == index) {
                        return tries[i];
                    }
                    passed++;
                }
            }
            return NO_SUCH;
        }

        boolean hasWeak(int span, int limit) {
            for (int i = 0; i < size; i++) {
                if (spans[i] == span && tries[i] >= limit) {
                    return true;
                }
            }
            return false;
        }
    }

    /** The spans that wait because they were asked for by hand. */
    private static final class Asked {
        private final int[] spans = new int[MAX_ASKED];
        private int size = 0;

        void copyFrom(Asked other) {
            System.arraycopy(other.spans, 0, spans, 0, MAX_ASKED);
            size = other.size;
        }

        int placeOf(int span) {
            for (int i = 0; i < size; i++) {
                if (spans[i] == span) {
                    return i;
                }
            }
            return NONE;
        }

        boolean append(int span) {
            if (size >= MAX_ASKED) {
                return false;
            }
            spans[size] = span;
            size++;
            return true;
        }

        boolean drop(int span) {
            int place = placeOf(span);
            if (place == NONE) {
                return false;
            }
            for (int i = place + 1; i < size; i++) {
                spans[i - 1] = spans[i];
            }
            size--;
            return true;
        }
    }

    /** The latest entries, in rings: a new entry takes the room of the oldest one when there is no other. */
    private static final class Log {
        private final int[] ticks = new int[MAX_ENTRIES];
        private final int[] kinds = new int[MAX_ENTRIES];
        private final int[] spans = new int[MAX_ENTRIES];
        private int next = 0;
        private int size = 0;

        void copyFrom(Log other) {
            System.arraycopy(other.ticks, 0, ticks, 0, MAX_ENTRIES);
            System.arraycopy(other.kinds, 0, kinds, 0, MAX_ENTRIES);
            System.arraycopy(other.spans, 0, spans, 0, MAX_ENTRIES);
            next = other.next;
            size = other.size;
        }

        void append(int tick, int kind, int span) {
            if (next >= MAX_ENTRIES) {
                next = 0;
            }
            ticks[next] = tick;
            kinds[next] = kind;
            spans[next] = span;
            next++;
            if (size < MAX_ENTRIES) {
                size++;
            }
        }

        boolean has(int index) {
            return index >= 0 && index < size;
        }

        int tickAt(int index) {
            return ticks[placeOf(index)];
        }

        int kindAt(int index) {
            return kinds[placeOf(index)];
        }

        int spanAt(int index) {
            return spans[placeOf(index)];
        }

        private int placeOf(int index) {
            return Math.floorMod(next - size + index, MAX_ENTRIES);
        }
    }

    /** The saved states, the oldest first, and behind them a draft: the state before the call that is under way. */
    private static final class History {
        private final Disk[] rows = new Disk[MAX_SAVED + 1];
        private int size = 0;

        History() {
            for (int i = 0; i < rows.length; i++) {
                rows[i] = new Disk();
            }
        }

        void draft(Disk disk) {
            Disk row = rowAt(size);
            if (row != null) {
                row.copyFrom(disk);
            }
        }

        /** Makes the draft a saved state, unless the answer of the call is an error code. */
        int keep(int answer) {
            if (answer < 0) {
                return answer;
            }
            if (size < MAX_SAVED) {
                size++;
            } else {
                discardOldest();
            }
            return answer;
        }

        int restore(Disk disk) {
            if (size == 0) {
                return NOT_POSSIBLE;
            }
            size--;
            Disk row = rowAt(size);
            if (row != null) {
                disk.copyFrom(row);
            }
            return size;
        }

        /** The row of the oldest state becomes the one for the next draft. */
        private void discardOldest() {
            Disk oldest = rows[0];
            for (int i = 1; i < rows.length; i++) {
                rows[i - 1] = rows[i];
            }
            rows[rows.length - 1] = oldest;
        }

        private Disk rowAt(int index) {
            return index >= 0 && index < rows.length ? rows[index] : null;
        }
    }

    /**
     * The text, and the commands that were found in it.
     *
     * A method that takes something moves on over each character that fits and stops at the first one that doesn't,
     * or at the end: as no two words of the language begin alike, this is where the first syntax error is.
     */
    private static final class Plan {
        private final char[] text = new char[MAX_TEXT];
        private int length = 0;
        private int at = 0;
        private final int[] kinds = new int[MAX_COMMANDS];
        private final int[] firsts = new int[MAX_COMMANDS];
        private final int[] seconds = new int[MAX_COMMANDS];
        private int commands = 0;
        private int value = 0;

        int append(int code) {
            if (code < 32 || code > 126) {
                return BAD_VALUE;
            }
            if (length >= MAX_TEXT) {
                return LIMIT;
            }
            text[length] = (char) code;
            length++;
            return length;
        }

        int clear() {
            int previous = length;
            length = 0;
            return previous;
        }

        /** Also notes the commands up to the error. */
        int findError() {
            at = 0;
            commands = 0;
            while (commands < MAX_COMMANDS) {
                if (!takeCommand(commands)) {
                    return at;
                }
                commands++;
                if (at == length) {
                    return NONE;
                }
                if (!takeSign(';')) {
                    return at;
                }
            }
            return at;
        }

        private boolean takeCommand(int index) {
            switch (sign()) {
                case 'r':
                    return takeWord("read ") && takeSpan() && note(index, READ_COMMAND)
                            && takeSign(':') && takeNumber() && noteSecond(index);
                case 'q':
                    return takeWord("quiet ") && takeNumber() && note(index, QUIET_COMMAND);
                case 'a':
                    return takeWord("ask ") && takeSpan() && note(index, ASK_COMMAND);
                case 's':
                    return takeWord("spot ") && takeSpan() && note(index, SPOT_COMMAND)
                            && takeSign(':') && takeDigit('1', '9') && noteSecond(index);
                case 'w':
                    return takeWord("way ") && takeWay() && note(index, WAY_COMMAND);
                default:
                    return false;
            }
        }

        /** Always true, so that it can stand between the things to take. */
        private boolean note(int index, int kind) {
            if (index >= 0 && index < MAX_COMMANDS) {
                kinds[index] = kind;
                firsts[index] = value;
            }
            return true;
        }

        private boolean noteSecond(int index) {
            if (index >= 0 && index < MAX_COMMANDS) {
                seconds[index] = value;
            }
            return true;
        }

        /** The character that comes next; behind the text one that fits nowhere. */
        private char sign() {
            return at >= 0 && at < length ? text[at] : (char) 0;
        }

        private boolean takeSign(char wanted) {
            if (sign() != wanted) {
                return false;
            }
            at++;
            return true;
        }

        private boolean takeWord(String word) {
            for (int i = 0; i < word.length(); i++) {
                if (!takeSign(word.charAt(i))) {
                    return false;
                }
            }
            return true;
        }

        private boolean takeDigit(char lowest, char highest) {
            char digit = sign();
            if (digit < lowest || digit > highest) {
                return false;
            }
            value = digit - '0';
            at++;
            return true;
        }

        private boolean takeSpan() {
            return takeDigit('0', '7');
        }

        private boolean takeNumber() {
            int digits = 0;
            int number = 0;
            while (digits < 3 && takeDigit('0', '9')) {
                number = 10 * number + value;
                digits++;
            }
            value = number;
            return digits > 0;
        }

        private boolean takeWay() {
            switch (sign()) {
                case 'o':
                    value = OLDEST_WAY;
                    return takeWord("oldest");
                case 'w':
                    value = WORST_WAY;
                    return takeWord("worst");
                case 'r':
                    value = ROW_WAY;
                    return takeWord("row");
                default:
                    return false;
            }
        }
    }
}
