/** Closing credits that scroll over a screen. What each method promises is told in the document. */
public final class CreditScroll {
    public static final int NO_SUCH = -1, BAD_VALUE = -2, BAD_TEXT = -3, TOO_MANY = -4, NOT_POSSIBLE = -5, NONE = -6;
    public static final int SCREEN = 0, SPEED = 1, LOGO = 2;
    public static final int NAME = 0, TITLE = 1, PICTURE = 2, BLANK = 3;

    private static final int SETTINGS = 3;
    private static final int[] LEAST_SETTINGS = {4, 1, 1};
    private static final int[] MOST_SETTINGS = {20, 30, 4};
    private static final int[] FIRST_SETTINGS = {10, 5, 3};

    private static final int MOST_LINES = 40;
    private static final int GROUPS = 8;
    private static final int MOST_NUMBER = 999;
    private static final int SLOWEST = 1, FASTEST = 30;
    private static final int NO_CUE = 0;
    private static final int TENTHS = 10;
    private static final int MOST_TURNS = 40;
    private static final int MOST_TIME = 9999;
    private static final int MOST_TICKS = 200;
    private static final int MOVED_BASE = 10000;
    private static final int MOST_CHARACTERS = 60;
    private static final int FIRST_CODE = 33, LAST_CODE = 126;
    private static final int CODE_BITS = 8, CODE_MASK = 255, CODES_AT_ONCE = 8;
    private static final int MOST_UNDOS = 6;
    private static final int SLOTS = 2;

    private final Course course = new Course();
    private final Credits credits = course.credits;
    // A second set for every "what if", so that the credits themselves stay untouched and nothing is made in a call.
    private final Course trialCourse = new Course();
    private final Credits trial = trialCourse.credits;
    private final Pad pad = new Pad();
    private final History history = new History();
    private final Slots slots = new Slots();

    /** Creates credits without lines. */
    public CreditScroll() {
    }

    // ---- changes

    public int set(int setting, int value) {
        if (setting < 0 || setting >= SETTINGS) {
            return BAD_VALUE;
        }
        if (!isWithin(value, LEAST_SETTINGS[setting], MOST_SETTINGS[setting])) {
            return BAD_VALUE;
        }
        history.remember(credits);
        int previous = credits.settings[setting];
        credits.settings[setting] = value;
        return previous;
    }

    public int name(int group, int number) {
        if (!isGroup(group) || !isWithin(number, 0, MOST_NUMBER)) {
            return BAD_VALUE;
        }
        return addAsChange(NAME, group, number);
    }

    public int line(int kind) {
        if (!isWithin(kind, TITLE, BLANK)) {
            return BAD_VALUE;
        }
        return addAsChange(kind, NONE, NONE);
    }

    public int cue(int line, int speed) {
        if (!credits.holds(line)) {
            return NO_SUCH;
        }
        if (speed != NO_CUE && !isSpeed(speed)) {
            return BAD_VALUE;
        }
        history.remember(credits);
        int previous = credits.cues[line];
        credits.cues[line] = speed;
        return previous;
    }

    public int move(int line, int place) {
        if (!credits.holds(line) || !credits.holds(place)) {
            return NO_SUCH;
        }
        course.follow();
        int before = course.ticksInAll();
        history.remember(credits);
        credits.carry(line, place);
        course.follow();
        return MOVED_BASE + course.ticksInAll() - before;
    }

    public int drop(int line) {
        if (!credits.holds(line)) {
            return NO_SUCH;
        }
        history.remember(credits);
        credits.remove(line);
        return credits.lines;
    }

    public int turn(int group, int times) {
        if (!isGroup(group) || !isWithin(times, 1, MOST_TURNS)) {
            return BAD_VALUE;
        }
        int first = credits.firstNameOf(group);
        if (!credits.holds(first)) {
            return NOT_POSSIBLE;
        }
        history.remember(credits);
        for (int i = 0; i < times; i++) {
            credits.rotateNumbers(group);
        }
        return credits.numbers[first];
    }

    public int read() {
        trial.lines = 0;
        if (pad.parseInto(trial) != NONE) {
            return BAD_TEXT;
        }
        if (credits.lines + trial.lines > MOST_LINES) {
            return TOO_MANY;
        }
        history.remember(credits);
        credits.addAll(trial);
        pad.length = 0;
        return credits.lines;
    }

    // ---- what there is; nothing changes

    public int of(int line, int what) {
        if (!credits.holds(line)) {
            return NO_SUCH;
        }
        course.follow();
        switch (what) {
            case 0: return credits.kinds[line];
            case 1: return credits.groups[line];
            case 2: return credits.numbers[line];
            case 3: return credits.cues[line];
            case 4: return course.tops[line];
            case 5: return credits.heightOf(line);
            case 6: return course.seen[line];
            case 7: return course.seen[line] == 0 ? NONE : course.firsts[line];
            case 8: return course.seen[line] == 0 ? NONE : course.firsts[line] + course.seen[line] - 1;
            default: return BAD_VALUE;
        }
    }

    public int group(int group, int what) {
        if (!isGroup(group)) {
            return BAD_VALUE;
        }
        course.follow();
        switch (what) {
            case 0: return credits.namesOf(group);
            case 1: return course.spreadOf(group);
            case 2: return credits.namesOf(group) == 0 ? NONE : course.leastSeenOf(group);
            case 3: return course.leastSeenLineOf(group);
            case 4: return firstNumberOf(group);
            default: return BAD_VALUE;
        }
    }

    public int at(int time, int what) {
        if (!isWithin(time, 0, MOST_TIME)) {
            return BAD_VALUE;
        }
        course.follow();
        switch (what) {
            case 0: return course.firstSeenAt(time);
            case 1: return course.lastSeenAt(time);
            case 2: return course.howManySeenAt(time);
            case 3: return course.speedAt(time);
            case 4: return course.movedAt(time);
            default: return BAD_VALUE;
        }
    }

    public int count(int what) {
        course.follow();
        switch (what) {
            case 0: return credits.lines;
            case 1: return credits.namesInAll();
            case 2: return course.rows;
            case 3: return course.ticksInAll();
            case 4: return course.unequalGroups();
            case 5: return credits.cuesInAll();
            case 6: return course.neverSeenNames();
            case 7: return credits.settings[SCREEN];
            case 8: return credits.settings[SPEED];
            case 9: return credits.settings[LOGO];
            case 10: return pad.length;
            case 11: return history.kept;
            default: return BAD_VALUE;
        }
    }

    // ---- what if; nothing changes

    public int blame(int what) {
        if (!isWithin(what, 0, 1)) {
            return BAD_VALUE;
        }
        trial.takeFrom(credits);
        int worstLine = NONE;
        int leastSum = NONE;
        for (int i = 0; i < trial.lines; i++) {
            int speed = trial.cues[i];
            if (speed != NO_CUE) {
                trial.cues[i] = NO_CUE;
                trialCourse.follow();
                int sum = trialCourse.spreadsInAll();
                if (worstLine == NONE || sum < leastSum) {
                    worstLine = i;
                    leastSum = sum;
                }
                trial.cues[i] = speed;
            }
        }
        return what == 0 ? worstLine : leastSum;
    }

    public int speedFor(int ticks) {
        if (!isWithin(ticks, 1, MOST_TICKS)) {
            return BAD_VALUE;
        }
        trial.takeFrom(credits);
        trial.dropCues();
        // All speeds are tried: a greater one can show a line for longer, when the ticks fall better on it.
        for (int speed = FASTEST; speed >= SLOWEST; speed--) {
            trial.settings[SPEED] = speed;
            trialCourse.follow();
            if (trialCourse.showsNamesFor(ticks)) {
                return speed;
            }
        }
        return NONE;
    }

    public int seenIf(int line, int speed) {
        if (!credits.holds(line)) {
            return NO_SUCH;
        }
        if (!isSpeed(speed)) {
            return BAD_VALUE;
        }
        trial.takeFrom(credits);
        trial.settings[SPEED] = speed;
        trialCourse.follow();
        return trialCourse.seen[line];
    }

    public int bestCue(int line, int group, int what) {
        if (!credits.holds(line)) {
            return NO_SUCH;
        }
        if (!isGroup(group) || !isWithin(what, 0, 1)) {
            return BAD_VALUE;
        }
        trial.takeFrom(credits);
        int bestSpeed = NONE;
        int leastSpread = NONE;
        for (int speed = FASTEST; speed >= SLOWEST; speed--) {
            trial.cues[line] = speed;
            trialCourse.follow();
            int spread = trialCourse.spreadOf(group);
            if (bestSpeed == NONE || spread < leastSpread) {
                bestSpeed = speed;
                leastSpread = spread;
            }
        }
        return what == 0 ? bestSpeed : leastSpread;
    }

    // ---- texts

    public int put(long characters) {
        int many = pad.charactersIn(characters);
        if (many == 0) {
            return BAD_VALUE;
        }
        if (pad.length + many > MOST_CHARACTERS) {
            return TOO_MANY;
        }
        pad.append(characters, many);
        return pad.length;
    }

    public int wipe() {
        int previous = pad.length;
        pad.length = 0;
        return previous;
    }

    public int fault() {
        trial.lines = 0;
        return pad.parseInto(trial);
    }

    // ---- undo, saving

    public int undo() {
        if (history.kept == 0) {
            return NOT_POSSIBLE;
        }
        history.takeBack(credits);
        return history.kept;
    }

    public int save(int slot) {
        if (!isSlot(slot)) {
            return BAD_VALUE;
        }
        slots.states[slot].takeFrom(credits);
        slots.filled[slot] = true;
        return credits.lines;
    }

    public int restore(int slot) {
        if (!isSlot(slot)) {
            return BAD_VALUE;
        }
        if (!slots.filled[slot]) {
            return NOT_POSSIBLE;
        }
        history.remember(credits);
        credits.takeFrom(slots.states[slot]);
        return credits.lines;
    }

    private int addAsChange(int kind, int group, int number) {
        if (credits.lines >= MOST_LINES) {
            return TOO_MANY;
        }
        history.remember(credits);
        credits.add(kind, group, number, NO_CUE);
        return credits.lines - 1;
    }

    private int firstNumberOf(int group) {
        int first = credits.firstNameOf(group);
        return credits.holds(first) ? credits.numbers[first] : NONE;
    }

    private static boolean isWithin(int value, int least, int most) {
        return value >= least && value <= most;
    }

    private static boolean isGroup(int group) {
        return isWithin(group, 0, GROUPS - 1);
    }

    private static boolean isSpeed(int speed) {
        return isWithin(speed, SLOWEST, FASTEST);
    }

    private static boolean isSlot(int slot) {
        return isWithin(slot, 0, SLOTS - 1);
    }

    /** The lines and the settings: all that undo and the slots bring back. */
    private static final class Credits {
        final int[] settings = new int[SETTINGS];
        final int[] kinds = new int[MOST_LINES];
        // NONE for a line that is no name, so that no kind has to be asked when a group is looked for.
        final int[] groups = new int[MOST_LINES];
        final int[] numbers = new int[MOST_LINES];
        final int[] cues = new int[MOST_LINES];
        int lines;

        Credits() {
            System.arraycopy(FIRST_SETTINGS, 0, settings, 0, SETTINGS);
        }

        void takeFrom(Credits other) {
            System.arraycopy(other.settings, 0, settings, 0, SETTINGS);
            lines = 0;
            addAll(other);
        }

        void addAll(Credits other) {
            for (int i = 0; i < other.lines; i++) {
                add(other.kinds[i], other.groups[i], other.numbers[i], other.cues[i]);
            }
        }

        void add(int kind, int group, int number, int cue) {
            if (lines < MOST_LINES) {
                kinds[lines] = kind;
                groups[lines] = group;
                numbers[lines] = number;
                cues[lines] = cue;
                lines++;
            }
        }

        boolean holds(int line) {
            return line >= 0 && line < lines;
        }

        int heightOf(int line) {
            switch (kinds[line]) {
                case TITLE: return 2;
                case PICTURE: return settings[LOGO];
                default: return 1;
            }
        }

        void carry(int line, int place) {
            for (int i = line; i < place; i++) {
                exchange(i, i + 1);
            }
            for (int i = line; i > place; i--) {
                exchange(i, i - 1);
            }
        }

        void remove(int line) {
            carry(line, lines - 1);
            lines--;
        }

        private void exchange(int one, int other) {
            exchangeIn(kinds, one, other);
            exchangeIn(groups, one, other);
            exchangeIn(numbers, one, other);
            exchangeIn(cues, one, other);
        }

        private static void exchangeIn(int[] row, int one, int other) {
            int kept = row[one];
            row[one] = row[other];
            row[other] = kept;
        }

        void rotateNumbers(int group) {
            int ahead = NONE;
            for (int i = 0; i < lines; i++) {
                if (groups[i] == group) {
                    if (ahead != NONE) {
                        exchangeIn(numbers, ahead, i);
                    }
                    ahead = i;
                }
            }
        }

        int firstNameOf(int group) {
            for (int i = 0; i < lines; i++) {
                if (groups[i] == group) {
                    return i;
                }
            }
            return NONE;
        }

        int namesOf(int group) {
            int names = 0;
            for (int i = 0; i < lines; i++) {
                if (groups[i] == group) {
                    names++;
                }
            }
            return names;
        }

        int namesInAll() {
            int names = 0;
            for (int i = 0; i < lines; i++) {
                if (kinds[i] == NAME) {
                    names++;
                }
            }
            return names;
        }

        int cuesInAll() {
            int found = 0;
            for (int i = 0; i < lines; i++) {
                if (cues[i] != NO_CUE) {
                    found++;
                }
            }
            return found;
        }

        void dropCues() {
            for (int i = 0; i < lines; i++) {
                cues[i] = NO_CUE;
            }
        }
    }

    /**
     * How the lines of its credits move, in stretches of ticks of one speed each. A height is how many tenths of a
     * row all has moved up. What it tells holds for the credits as they were when it followed them last.
     */
    private static final class Course {
        final Credits credits = new Credits();
        final int[] tops = new int[MOST_LINES];
        final int[] firsts = new int[MOST_LINES];
        final int[] seen = new int[MOST_LINES];
        int rows;
        // Each cue begins one stretch at most, and one begins at the time 0.
        final int[] times = new int[MOST_LINES + 1];
        final int[] heights = new int[MOST_LINES + 1];
        final int[] speeds = new int[MOST_LINES + 1];
        int stretches;

        void follow() {
            layOut();
            pace();
            watch();
        }

        private void layOut() {
            rows = 0;
            for (int i = 0; i < credits.lines; i++) {
                tops[i] = rows;
                rows += credits.heightOf(i);
            }
        }

        private void pace() {
            stretches = 0;
            begin(0, 0, credits.settings[SPEED]);
            for (int i = 0; i < credits.lines; i++) {
                if (credits.cues[i] != NO_CUE) {
                    changeSpeed(TENTHS * tops[i], credits.cues[i]);
                }
            }
        }

        private void changeSpeed(int height, int speed) {
            int latest = stretches - 1;
            if (latest < 0) {
                return;
            }
            int ticks = ticksIn(latest, height);
            if (ticks > 0) {
                begin(times[latest] + ticks, heights[latest] + ticks * speeds[latest], speed);
            } else {
                // One tick brought several cues over the bottom of the screen: the last one counts.
                speeds[latest] = speed;
            }
        }

        private void begin(int time, int height, int speed) {
            if (stretches <= MOST_LINES) {
                times[stretches] = time;
                heights[stretches] = height;
                speeds[stretches] = speed;
                stretches++;
            }
        }

        private void watch() {
            int entering = 0;
            int leaving = 0;
            for (int i = 0; i < credits.lines; i++) {
                int whole = TENTHS * (tops[i] + credits.heightOf(i));
                int gone = TENTHS * (tops[i] + credits.settings[SCREEN]) + 1;
                // Both heights grow from line to line, so that no stretch is looked at again.
                entering = stretchReaching(whole, entering);
                leaving = stretchReaching(gone, leaving);
                firsts[i] = timeIn(entering, whole);
                seen[i] = timeIn(leaving, gone) - firsts[i];
            }
        }

        /** The stretch in which a height is reached; it is none of those ahead of earliest. */
        private int stretchReaching(int height, int earliest) {
            int found = earliest;
            for (int i = earliest + 1; i < stretches && heights[i] < height; i++) {
                found = i;
            }
            return found;
        }

        private int timeIn(int stretch, int height) {
            return times[stretch] + ticksIn(stretch, height);
        }

        private int ticksIn(int stretch, int height) {
            int way = height - heights[stretch];
            int speed = speeds[stretch];
            return way <= 0 || speed <= 0 ? 0 : (way + speed - 1) / speed;
        }

        int ticksInAll() {
            if (credits.lines == 0) {
                return 0;
            }
            int over = TENTHS * (rows + credits.settings[SCREEN]);
            return timeIn(stretchReaching(over, 0), over);
        }

        private int stretchAt(int time) {
            int found = 0;
            for (int i = 1; i < stretches && times[i] <= time; i++) {
                found = i;
            }
            return found;
        }

        int speedAt(int time) {
            return speeds[stretchAt(time)];
        }

        int movedAt(int time) {
            int stretch = stretchAt(time);
            return heights[stretch] + (time - times[stretch]) * speeds[stretch];
        }

        private boolean isSeenAt(int line, int time) {
            return time >= firsts[line] && time < firsts[line] + seen[line];
        }

        int firstSeenAt(int time) {
            for (int i = 0; i < credits.lines; i++) {
                if (isSeenAt(i, time)) {
                    return i;
                }
            }
            return NONE;
        }

        int lastSeenAt(int time) {
            for (int i = credits.lines - 1; i >= 0; i--) {
                if (isSeenAt(i, time)) {
                    return i;
                }
            }
            return NONE;
        }

        int howManySeenAt(int time) {
            int many = 0;
            for (int i = 0; i < credits.lines; i++) {
                if (isSeenAt(i, time)) {
                    many++;
                }
            }
            return many;
        }

        int leastSeenLineOf(int group) {
            int found = NONE;
            for (int i = 0; i < credits.lines; i++) {
                if (credits.groups[i] == group && (found == NONE || seen[i] < seen[found])) {
                    found = i;
                }
            }
            return found;
        }

        int leastSeenOf(int group) {
            int line = leastSeenLineOf(group);
            return line == NONE ? 0 : seen[line];
        }

        private int mostSeenOf(int group) {
            int most = 0;
            for (int i = 0; i < credits.lines; i++) {
                if (credits.groups[i] == group) {
                    most = Math.max(most, seen[i]);
                }
            }
            return most;
        }

        int spreadOf(int group) {
            return mostSeenOf(group) - leastSeenOf(group);
        }

        int spreadsInAll() {
            int sum = 0;
            for (int group = 0; group < GROUPS; group++) {
                sum += spreadOf(group);
            }
            return sum;
        }

        int unequalGroups() {
            int many = 0;
            for (int group = 0; group < GROUPS; group++) {
                if (spreadOf(group) != 0) {
                    many++;
                }
            }
            return many;
        }

        int neverSeenNames() {
            int many = 0;
            for (int i = 0; i < credits.lines; i++) {
                if (credits.kinds[i] == NAME && seen[i] == 0) {
                    many++;
                }
            }
            return many;
        }

        boolean showsNamesFor(int ticks) {
            for (int i = 0; i < credits.lines; i++) {
                if (credits.kinds[i] == NAME && seen[i] < ticks) {
                    return false;
                }
            }
            return true;
        }
    }

    /** The text from which lines are read. */
    private static final class Pad {
        private static final int END = 0;
        private static final int NOT_ONE = -1;
        private static final int BASE = 10;

        final char[] characters = new char[MOST_CHARACTERS];
        int length;
        private int place;

        /** How many characters a number holds; 0 if it is not made as it has to be. */
        int charactersIn(long number) {
            int many = 0;
            long rest = number;
            while (many < CODES_AT_ONCE && rest != 0) {
                if (!isWithin((int) (rest & CODE_MASK), FIRST_CODE, LAST_CODE)) {
                    return 0;
                }
                many++;
                rest >>>= CODE_BITS;
            }
            return many;
        }

        void append(long number, int many) {
            for (int i = many - 1; i >= 0; i--) {
                if (length < MOST_CHARACTERS) {
                    characters[length] = (char) (number >>> (CODE_BITS * i) & CODE_MASK);
                    length++;
                }
            }
        }

        /** Adds the lines up to the fault, and returns it. */
        int parseInto(Credits target) {
            place = 0;
            for (int i = 0; i <= length; i++) {
                if (!parseLineInto(target)) {
                    return place;
                }
                if (place == length) {
                    return NONE;
                }
                if (character() != ',') {
                    return place;
                }
                place++;
            }
            return place;
        }

        private boolean parseLineInto(Credits target) {
            int kind = kindHere();
            if (kind == NOT_ONE) {
                return false;
            }
            place++;
            int group = NONE;
            int number = NONE;
            if (kind == NAME) {
                group = digit();
                if (!isGroup(group)) {
                    return false;
                }
                place++;
                number = parseNumber(0, MOST_NUMBER);
                if (number == NOT_ONE) {
                    return false;
                }
            }
            int speed = NO_CUE;
            if (character() == '@') {
                place++;
                speed = parseNumber(SLOWEST, FASTEST);
                if (speed == NOT_ONE) {
                    return false;
                }
            }
            target.add(kind, group, number, speed);
            return true;
        }

        /** Stops ahead of a digit that would be too much: what goes on behind it finds the fault there. */
        private int parseNumber(int least, int most) {
            int value = digit();
            if (value < least) {
                return NOT_ONE;
            }
            place++;
            for (int i = place; i < length; i++) {
                int next = digit();
                if (value == 0 || next == NOT_ONE || BASE * value + next > most) {
                    return value;
                }
                value = BASE * value + next;
                place++;
            }
            return value;
        }

        private int kindHere() {
            switch (character()) {
                case 'n': return NAME;
                case 't': return TITLE;
                case 'l': return PICTURE;
                case 'b': return BLANK;
                default: return NOT_ONE;
            }
        }

        private int digit() {
            int character = character();
            return isWithin(character, '0', '9') ? character - '0' : NOT_ONE;
        }

        private int character() {
            return place < length ? characters[place] : END;
        }
    }

    /** The states before the latest changes, in a ring: the oldest one makes room for a new one. */
    private static final class History {
        final Credits[] states = new Credits[MOST_UNDOS];
        int kept;
        private int oldest;

        History() {
            for (int i = 0; i < MOST_UNDOS; i++) {
                states[i] = new Credits();
            }
        }

        void remember(Credits before) {
            states[(oldest + kept) % MOST_UNDOS].takeFrom(before);
            if (kept < MOST_UNDOS) {
                kept++;
            } else {
                oldest = (oldest + 1) % MOST_UNDOS;
            }
        }

        void takeBack(Credits target) {
            if (kept > 0) {
                kept--;
                target.takeFrom(states[(oldest + kept) % MOST_UNDOS]);
            }
        }
    }

    /** The saved states. */
    private static final class Slots {
        final Credits[] states = new Credits[SLOTS];
        final boolean[] filled = new boolean[SLOTS];

        Slots() {
            for (int i = 0; i < SLOTS; i++) {
                states[i] = new Credits();
            }
        }
    }
}
