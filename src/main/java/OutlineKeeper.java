import java.util.NoSuchElementException;

/**
 * An outline keeper: headings by levels, numbers by styles, acts that change the outline,
 * texts that are read and written, undo and saved states.
 *
 * All rows are made by constructors and used again: what a call makes is never given back.
 */
public final class OutlineKeeper {
    public static final int NONE = -1;

    private static final int MAX_HEADINGS = 60;
    private static final int MAX_LEVEL = 6;
    private static final int MAX_LETTERS = 8;
    private static final int MAX_TEXT = 700;
    private static final int MAX_COMMANDS = 40;
    private static final int MAX_UNDO = 8;
    private static final int MAX_START = 99;
    private static final int SLOTS = 2;

    // The longest sign is a Roman one, as LXXXVIII; each but the last one has a full stop behind it.
    private static final int MAX_NUMBER = MAX_LEVEL * 9;
    // Indentation, NUMBER and space, name, plus sign, line feed.
    private static final int MAX_LINE = MAX_LEVEL + MAX_NUMBER + 1 + MAX_LETTERS + 2;

    private static final int DECIMAL = 0;
    private static final int UPPER = 1;
    private static final int LOWER = 2;
    private static final int ROMAN = 3;
    private static final int SMALL = 4;
    private static final int UNNUMBERED = 5;

    private static final int WAY_AHEAD = 0;
    private static final int WAY_BEHIND = 1;
    private static final int WAY_FIRST = 2;
    private static final int WAY_LAST = 3;

    private static final int BY_NAME = 0;
    private static final int BY_BRANCH = 1;
    private static final int BY_TURNING = 2;

    private static final int REASON_LEVEL = 1;
    private static final int REASON_INSIDE = 2;
    private static final int REASON_FULL = 3;
    private static final int REASON_TOP = 4;
    private static final int REASON_NO_SIBLING = 5;
    private static final int REASON_NO_CHILD = 6;
    private static final int REASON_ALREADY = 7;

    private static final int ERROR_TOKEN = 1;
    private static final int ERROR_RANGE = 2;
    private static final int ERROR_DEPTH = 3;
    private static final int ERROR_FULL = 4;

    private static final String STYLE_WORDS = "decimal upper lower roman small none";
    private static final String WAY_WORDS = "ahead behind first last";
    private static final String COMMAND_WORDS = "move promote demote remove dissolve fold unfold sort";
    private static final int COMMAND_MOVE = 0;
    private static final int COMMAND_PROMOTE = 1;
    private static final int COMMAND_DEMOTE = 2;
    private static final int COMMAND_REMOVE = 3;
    private static final int COMMAND_DISSOLVE = 4;
    private static final int COMMAND_FOLD = 5;
    private static final int COMMAND_UNFOLD = 6;
    private static final int COMMAND_SORT = 7;

    private final Outline now = new Outline();
    private final Outline draft = new Outline();
    private final Numbers numbers = new Numbers();
    private final Numbers draftNumbers = new Numbers();
    private final History history = new History();
    private final Outline[] saved = new Outline[SLOTS];
    private final Bytes buffer = new Bytes(MAX_TEXT);
    private final Bytes written = new Bytes(MAX_HEADINGS * MAX_LINE);
    private final Bytes text = new Bytes(MAX_NUMBER);
    private final Tokens tokens = new Tokens(buffer);
    private final OutlineReader outlineReader = new OutlineReader(tokens);
    private final Script script = new Script(tokens);
    private final int[] accounts = new int[REASON_ALREADY + 1];
    private final int[] places = new int[MAX_HEADINGS];
    private final int[] sorted = new int[MAX_HEADINGS];
    private final boolean[] isTried = new boolean[MAX_HEADINGS + 1];
    private int latestError = 0;
    private int latestErrorPosition = NONE;

    public OutlineKeeper() {
        now.makeEmpty();
    }

    // ---- texts

    public int append(int a, int b, int c, int d, int e) throws IllegalStateException {
        int more = countBytes(a) + countBytes(b) + countBytes(c) + countBytes(d) + countBytes(e);
        if (buffer.length + more > MAX_TEXT) {
            throw new IllegalStateException("the buffer holds at most 700 bytes");
        }
        addBytes(a);
        addBytes(b);
        addBytes(c);
        addBytes(d);
        addBytes(e);
        return buffer.length;
    }

    public int load() {
        int error = outlineReader.readInto(draft);
        endReading(error);
        if (error != 0) {
            return NONE;
        }
        now.copyAll(draft);
        history.forget();
        return now.count;
    }

    public int play() {
        int error = script.readAll();
        endReading(error);
        if (error != 0) {
            return NONE;
        }
        int done = 0;
        for (int i = 0; i < script.count; i++) {
            if (!doCommand(i)) {
                break;
            }
            done++;
        }
        return done;
    }

    public int errorCode() {
        return latestError;
    }

    public int errorPosition() {
        return latestErrorPosition;
    }

    public int find(boolean isNumber) {
        int found = buffer.length == 0 ? NONE : findBuffer(isNumber);
        buffer.clear();
        return found;
    }

    // ---- what there is

    public int size(int what) throws IllegalArgumentException {
        switch (what) {
            case 0: return now.count;
            case 1: return now.listVisible(places);
            case 2: return countNumbered();
            case 3: return now.greatestLevel(0, now.count);
            case 4: return now.listChildren(NONE, places);
            case 5: return buffer.length;
            case 6: return history.count;
            case 7: return now.countFolded();
            case 8: return countShared();
            default: throw new IllegalArgumentException("what is 0 to 8");
        }
    }

    public int heading(int place, int what) throws IndexOutOfBoundsException, IllegalArgumentException {
        needHeading(place);
        switch (what) {
            case 0: return now.levelAt(place);
            case 1: return now.parentOf(place);
            case 2: return now.listChildren(place, places);
            case 3: return now.branchEnd(place) - place;
            case 4: return now.greatestLevel(place, now.branchEnd(place));
            case 5: return now.siblingsAhead(place);
            case 6: return now.isPlain(place) ? 1 : 0;
            case 7: return now.isFolded(place) ? 1 : 0;
            case 8: return countShown(place, place + 1);
            case 9: return countOf(place);
            case 10: return writeNumber(place);
            case 11: return lettersOf(now.nameAt(place));
            default: throw new IllegalArgumentException("what is 0 to 11");
        }
    }

    public int letter(int place, int index) throws IndexOutOfBoundsException {
        needHeading(place);
        int letter = letterOf(now.nameAt(place), index);
        return letter == 0 ? NONE : letter;
    }

    public int number(int place, int index) throws IndexOutOfBoundsException {
        needHeading(place);
        writeNumber(place);
        return text.byteAt(index);
    }

    public int style(int level, int what) throws IndexOutOfBoundsException, IllegalArgumentException {
        needLevel(level);
        switch (what) {
            case 0: return now.styles.kindOf(level);
            case 1: return now.styles.startOf(level);
            case 2: return now.styles.isOwn(level) ? 1 : 0;
            case 3: return now.styles.isOn(level) ? 1 : 0;
            default: throw new IllegalArgumentException("what is 0 to 3");
        }
    }

    public int child(int place, int child) throws IndexOutOfBoundsException, NoSuchElementException {
        needHeadingOrNone(place);
        int children = now.listChildren(place, places);
        if (child < 0 || child >= children) {
            throw new NoSuchElementException("there is no such child");
        }
        return places[child];
    }

    public int common(int one, int other) throws IndexOutOfBoundsException {
        needHeading(one);
        needHeading(other);
        int upper = one;
        int lower = other;
        // Of two different places the greater one can't be the common one: its parent is ahead of it.
        for (int step = 0; step < 2 * MAX_LEVEL && upper != lower; step++) {
            if (upper > lower) {
                upper = now.parentOf(upper);
            } else {
                lower = now.parentOf(lower);
            }
        }
        return upper;
    }

    public int visible(int index) {
        int shown = now.listVisible(places);
        return index >= 0 && index < shown ? places[index] : NONE;
    }

    public int largest() {
        int tops = now.listChildren(NONE, places);
        int best = NONE;
        int most = 0;
        for (int i = 0; i < tops; i++) {
            int headings = now.branchEnd(places[i]) - places[i];
            if (headings > most) {
                most = headings;
                best = places[i];
            }
        }
        return best;
    }

    public int account(int what) throws IllegalArgumentException {
        if (what < 0 || what >= accounts.length) {
            throw new IllegalArgumentException("what is 0 to 7");
        }
        return accounts[what];
    }

    public float share() {
        if (now.count == 0) {
            return 0.0f;
        }
        return (float) now.listVisible(places) / (float) now.count;
    }

    public double meanLevel() {
        if (now.count == 0) {
            return 0.0;
        }
        return (double) now.sumOfLevels() / (double) now.count;
    }

    // ---- what would be: nothing changes

    public int whyNot(int place, int target, int way) throws IndexOutOfBoundsException, IllegalArgumentException {
        needHeading(place);
        needHeading(target);
        needRange(way, WAY_AHEAD, WAY_LAST);
        return moveReason(place, target, way);
    }

    public int changedBy(int place, int target, int way) throws IndexOutOfBoundsException, IllegalArgumentException {
        needHeading(place);
        needHeading(target);
        needRange(way, WAY_AHEAD, WAY_LAST);
        if (moveReason(place, target, way) != 0) {
            return NONE;
        }
        numbers.countAll(now);
        return countChanged(place, target, way);
    }

    public int cheapest(int place, int level) throws IndexOutOfBoundsException {
        needHeading(place);
        needLevel(level);
        numbers.countAll(now);
        for (int i = 0; i < isTried.length; i++) {
            isTried[i] = false;
        }
        int best = NONE;
        int fewest = MAX_HEADINGS + 1;
        for (int target = 0; target < now.count; target++) {
            for (int way = WAY_AHEAD; way <= WAY_LAST; way++) {
                if (now.levelBy(target, way) != level || !isNewMove(place, target, way)) {
                    continue;
                }
                int changed = countChanged(place, target, way);
                if (changed < fewest) {
                    fewest = changed;
                    best = 10 * target + way;
                }
            }
        }
        return best;
    }

    public int wouldHide(int place) throws IndexOutOfBoundsException {
        needHeading(place);
        return countShown(place + 1, now.branchEnd(place));
    }

    // ---- acts: a number as told, or minus the reason

    public int insert(int target, int way, int bytes) throws IndexOutOfBoundsException, IllegalArgumentException {
        needHeadingOrNone(target);
        needRange(way, WAY_AHEAD, WAY_LAST);
        needRange(bytes, 1, MAX_LETTERS);
        long name = nameInBuffer(bytes);
        if (name == 0) {
            throw new IllegalArgumentException("the buffer does not begin with such a name");
        }
        buffer.clear();
        // NONE stands for a root of level 0, the parent of the headings that have none.
        return insertHeading(target, target == NONE ? WAY_LAST : way, name);
    }

    public int remove(int place) throws IndexOutOfBoundsException {
        needHeading(place);
        return removeBranch(place);
    }

    public int dissolve(int place) throws IndexOutOfBoundsException {
        needHeading(place);
        return dissolveHeading(place);
    }

    public int move(int place, int target, int way) throws IndexOutOfBoundsException, IllegalArgumentException {
        needHeading(place);
        needHeading(target);
        needRange(way, WAY_AHEAD, WAY_LAST);
        return moveBranch(place, target, way);
    }

    public int promote(int place) throws IndexOutOfBoundsException {
        needHeading(place);
        return promoteBranch(place);
    }

    public int demote(int place) throws IndexOutOfBoundsException {
        needHeading(place);
        return demoteBranch(place);
    }

    public int fold(int place, boolean isFolded) throws IndexOutOfBoundsException {
        needHeading(place);
        return foldHeading(place, isFolded);
    }

    public int foldTo(int level) throws IndexOutOfBoundsException {
        needLevel(level);
        beginAct();
        for (int i = 0; i < now.count; i++) {
            now.putFolded(i, now.levelAt(i) >= level && now.hasChildren(i));
        }
        return now.listVisible(places);
    }

    public int sort(int place, int by) throws IndexOutOfBoundsException, IllegalArgumentException {
        needHeadingOrNone(place);
        needRange(by, BY_NAME, BY_TURNING);
        return sortChildren(place, by);
    }

    public int setPlain(int place, boolean isPlain) throws IndexOutOfBoundsException {
        needHeading(place);
        if (now.isPlain(place) == isPlain) {
            return refuse(REASON_ALREADY);
        }
        beginAct();
        now.putPlain(place, isPlain);
        return countNumbered();
    }

    public int setStyle(int level, int style, int start) throws IndexOutOfBoundsException, IllegalArgumentException {
        needLevel(level);
        needRange(style, DECIMAL, UNNUMBERED);
        needRange(start, 1, MAX_START);
        int styleBefore = now.styles.kindOf(level);
        beginAct();
        now.styles.putKind(level, style, start);
        return styleBefore;
    }

    public int setMode(int level, boolean isOwn, boolean isOn) throws IndexOutOfBoundsException {
        needLevel(level);
        int modeBefore = (now.styles.isOwn(level) ? 2 : 0) + (now.styles.isOn(level) ? 1 : 0);
        beginAct();
        now.styles.putMode(level, isOwn, isOn);
        return modeBefore;
    }

    // ---- output

    public int write() {
        numbers.countAll(now);
        written.clear();
        int shown = now.listVisible(places);
        for (int i = 0; i < shown; i++) {
            writeLine(places[i]);
        }
        return written.length;
    }

    public int output(int index) throws IndexOutOfBoundsException {
        if (index < 0 || index >= written.length) {
            throw new IndexOutOfBoundsException("there is no such byte");
        }
        return written.byteAt(index);
    }

    // ---- undo, saved states

    public int undo() throws IllegalStateException {
        if (history.count == 0) {
            throw new IllegalStateException("there is no act to undo");
        }
        history.bringBack(now);
        return history.count;
    }

    public int save(int slot) throws IndexOutOfBoundsException {
        needSlot(slot);
        Outline state = saved[slot];
        if (state == null) {
            state = new Outline();
            saved[slot] = state;
        }
        state.copyAll(now);
        return now.count;
    }

    public int restore(int slot) throws IndexOutOfBoundsException, IllegalStateException {
        needSlot(slot);
        Outline state = saved[slot];
        if (state == null) {
            throw new IllegalStateException("nothing is saved there");
        }
        now.copyAll(state);
        history.forget();
        return now.count;
    }

    // ---- what the methods need

    private void needHeading(int place) {
        if (!now.has(place)) {
            throw new IndexOutOfBoundsException("there is no such heading");
        }
    }

    private void needHeadingOrNone(int place) {
        if (place != NONE) {
            needHeading(place);
        }
    }

    private static void needLevel(int level) {
        if (!isLevel(level)) {
            throw new IndexOutOfBoundsException("a level is 1 to 6");
        }
    }

    private static void needSlot(int slot) {
        if (slot < 0 || slot >= SLOTS) {
            throw new IndexOutOfBoundsException("a slot is 0 or 1");
        }
    }

    private static void needRange(int value, int least, int greatest) {
        if (value < least || value > greatest) {
            throw new IllegalArgumentException("a parameter is out of its range");
        }
    }

    private static boolean isLevel(int level) {
        return level >= 1 && level <= MAX_LEVEL;
    }

    // ---- names: their letters in a long, the first one in its greatest byte, so that
    // ---- a shorter name is less than a longer one that begins with it

    private static long withLetter(long name, int index, int letter) {
        return index < MAX_LETTERS ? name | (long) letter << 8 * (MAX_LETTERS - 1 - index) : name;
    }

    private static int letterOf(long name, int index) {
        if (index < 0 || index >= MAX_LETTERS) {
            return 0;
        }
        return (int) (name >>> 8 * (MAX_LETTERS - 1 - index)) & 255;
    }

    private static int lettersOf(long name) {
        int letters = 0;
        for (int i = 0; i < MAX_LETTERS; i++) {
            if (letterOf(name, i) != 0) {
                letters++;
            }
        }
        return letters;
    }

    private static boolean isLetter(int sign) {
        return sign >= 'a' && sign <= 'z';
    }

    // ---- the buffer

    private static int countBytes(int four) {
        int bytes = 0;
        for (int shift = 24; shift >= 0; shift -= 8) {
            if ((four >>> shift & 255) != 0) {
                bytes++;
            }
        }
        return bytes;
    }

    private void addBytes(int four) {
        for (int shift = 24; shift >= 0; shift -= 8) {
            int one = four >>> shift & 255;
            if (one != 0) {
                buffer.add(one);
            }
        }
    }

    /** The name that the first bytes are; 0 if they are none. */
    private long nameInBuffer(int bytes) {
        long name = 0;
        for (int i = 0; i < bytes; i++) {
            int letter = buffer.byteAt(i);
            if (!isLetter(letter)) {
                return 0;
            }
            name = withLetter(name, i, letter);
        }
        return name;
    }

    private int findBuffer(boolean isNumber) {
        numbers.countAll(now);
        for (int i = 0; i < now.count; i++) {
            text.clear();
            if (isNumber) {
                numbers.addNumber(text, i);
            } else {
                addName(text, i);
            }
            if (text.isLike(buffer)) {
                return i;
            }
        }
        return NONE;
    }

    private void endReading(int error) {
        latestError = error;
        latestErrorPosition = error == 0 ? NONE : tokens.start;
        buffer.clear();
    }

    /** Whether the command was done: not if it is refused, nor if it has a place without a heading. */
    private boolean doCommand(int index) {
        int place = script.placeOf(index);
        int target = script.targetOf(index);
        if (!now.has(place) || !now.has(target)) {
            return false;
        }
        switch (script.commandOf(index)) {
            case COMMAND_MOVE: return moveBranch(place, target, script.wayOf(index)) >= 0;
            case COMMAND_PROMOTE: return promoteBranch(place) >= 0;
            case COMMAND_DEMOTE: return demoteBranch(place) >= 0;
            case COMMAND_REMOVE: return removeBranch(place) >= 0;
            case COMMAND_DISSOLVE: return dissolveHeading(place) >= 0;
            case COMMAND_FOLD: return foldHeading(place, true) >= 0;
            case COMMAND_UNFOLD: return foldHeading(place, false) >= 0;
            case COMMAND_SORT: return sortChildren(place, BY_NAME) >= 0;
            default: return false;
        }
    }

    // ---- lines and numbers

    private void addName(Bytes line, int place) {
        long name = now.nameAt(place);
        int letters = lettersOf(name);
        for (int i = 0; i < letters; i++) {
            line.add(letterOf(name, i));
        }
    }

    private void writeLine(int place) {
        int level = now.levelAt(place);
        for (int i = 1; i < level; i++) {
            written.add(' ');
        }
        if (numbers.isNumbered(place)) {
            numbers.addNumber(written, place);
            written.add(' ');
        }
        addName(written, place);
        if (now.isFolded(place)) {
            written.add('+');
        }
        written.add('\n');
    }

    private int countOf(int place) {
        numbers.countAll(now);
        return numbers.countAt(place);
    }

    private int writeNumber(int place) {
        numbers.countAll(now);
        text.clear();
        numbers.addNumber(text, place);
        return text.length;
    }

    private int countNumbered() {
        numbers.countAll(now);
        int numbered = 0;
        for (int i = 0; i < now.count; i++) {
            if (numbers.isNumbered(i)) {
                numbered++;
            }
        }
        return numbered;
    }

    private int countShared() {
        numbers.countAll(now);
        int shared = 0;
        for (int i = 0; i < now.count; i++) {
            if (numbers.isNumbered(i) && isShared(i)) {
                shared++;
            }
        }
        return shared;
    }

    private boolean isShared(int place) {
        for (int i = 0; i < now.count; i++) {
            if (i != place && numbers.isSame(place, numbers, i)) {
                return true;
            }
        }
        return false;
    }

    private int countShown(int from, int end) {
        int listed = now.listVisible(places);
        int shown = 0;
        for (int i = 0; i < listed; i++) {
            if (places[i] >= from && places[i] < end) {
                shown++;
            }
        }
        return shown;
    }

    // ---- moves that are thought of

    private int moveReason(int place, int target, int way) {
        int end = now.branchEnd(place);
        if (target >= place && target < end) {
            return REASON_INSIDE;
        }
        int deeper = now.levelBy(target, way) - now.levelAt(place);
        return now.greatestLevel(place, end) + deeper > MAX_LEVEL ? REASON_LEVEL : 0;
    }

    /** Whether the move would be done and leads to a place that isTried does not know; now it does. */
    private boolean isNewMove(int place, int target, int way) {
        if (moveReason(place, target, way) != 0) {
            return false;
        }
        // Moves to one place with one level make the same row; directly behind itself is where it is.
        int to = now.placeBy(target, way);
        int known = to == now.branchEnd(place) ? place : to;
        if (known < 0 || known >= isTried.length || isTried[known]) {
            return false;
        }
        isTried[known] = true;
        return true;
    }

    /** The numbers that a move which is not refused changes; numbers holds those of now. */
    private int countChanged(int place, int target, int way) {
        draft.takeMoved(now, place, target, way);
        draftNumbers.countAll(draft);
        int changed = 0;
        for (int i = 0; i < draft.count; i++) {
            if (!draftNumbers.isSame(i, numbers, draft.originOf(i))) {
                changed++;
            }
        }
        return changed;
    }

    // ---- acts

    private int refuse(int reason) {
        if (reason > 0 && reason < accounts.length) {
            accounts[reason]++;
        }
        return -reason;
    }

    /** Makes the act one that is done and can be undone; answers what there was ahead of it. */
    private Outline beginAct() {
        accounts[0]++;
        return history.keep(now);
    }

    private int insertHeading(int target, int way, long name) {
        if (now.count >= MAX_HEADINGS) {
            return refuse(REASON_FULL);
        }
        int place = now.placeBy(target, way);
        int level = now.levelBy(target, way);
        if (level > MAX_LEVEL) {
            return refuse(REASON_LEVEL);
        }
        Outline before = beginAct();
        now.takeRange(before, 0, place);
        now.addHeading(name, level);
        now.addRange(before, place, before.count);
        return place;
    }

    private int removeBranch(int place) {
        int end = now.branchEnd(place);
        Outline before = beginAct();
        now.takeRange(before, 0, place);
        now.addRange(before, end, before.count);
        return end - place;
    }

    private int dissolveHeading(int place) {
        int end = now.branchEnd(place);
        Outline before = beginAct();
        now.takeRange(before, 0, place);
        now.addRange(before, place + 1, before.count);
        now.shiftLevels(place, end - 1, -1);
        return now.count;
    }

    private int moveBranch(int place, int target, int way) {
        int reason = moveReason(place, target, way);
        if (reason != 0) {
            return refuse(reason);
        }
        Outline before = beginAct();
        return now.takeMoved(before, place, target, way);
    }

    private int promoteBranch(int place) {
        if (now.levelAt(place) == 1) {
            return refuse(REASON_TOP);
        }
        beginAct();
        now.shiftLevels(place, now.branchEnd(place), -1);
        return now.levelAt(place);
    }

    private int demoteBranch(int place) {
        int end = now.branchEnd(place);
        if (now.siblingsAhead(place) == 0) {
            return refuse(REASON_NO_SIBLING);
        }
        if (now.greatestLevel(place, end) >= MAX_LEVEL) {
            return refuse(REASON_LEVEL);
        }
        beginAct();
        now.shiftLevels(place, end, 1);
        return now.levelAt(place);
    }

    private int foldHeading(int place, boolean isFolded) {
        if (now.isFolded(place) == isFolded) {
            return refuse(REASON_ALREADY);
        }
        if (isFolded && !now.hasChildren(place)) {
            return refuse(REASON_NO_CHILD);
        }
        beginAct();
        now.putFolded(place, isFolded);
        return now.listVisible(places);
    }

    private int sortChildren(int place, int by) {
        int children = now.listChildren(place, places);
        if (children == 0) {
            return refuse(REASON_NO_CHILD);
        }
        int end = now.branchEnd(place);
        Outline before = beginAct();
        now.listChildren(place, sorted);
        sortPlaces(before, children, by);
        now.takeRange(before, 0, place + 1);
        int changed = 0;
        for (int i = 0; i < children; i++) {
            now.addRange(before, sorted[i], before.branchEnd(sorted[i]));
            if (sorted[i] != places[i]) {
                changed++;
            }
        }
        now.addRange(before, end, before.count);
        return changed;
    }

    private void sortPlaces(Outline outline, int children, int by) {
        for (int i = 1; i < children && i < sorted.length; i++) {
            int moved = sorted[i];
            int to = i;
            while (to > 0 && outline.isSortedAhead(moved, sorted[to - 1], by)) {
                sorted[to] = sorted[to - 1];
                to--;
            }
            sorted[to] = moved;
        }
    }

    /** A row of bytes that has a limit. */
    private static final class Bytes {
        int length = 0;
        private final byte[] bytes;

        Bytes(int limit) {
            bytes = new byte[limit > 0 ? limit : 0];
        }

        void clear() {
            length = 0;
        }

        void add(int one) {
            if (length < bytes.length) {
                bytes[length] = (byte) one;
                length++;
            }
        }

        int byteAt(int index) {
            return index >= 0 && index < length ? bytes[index] & 255 : NONE;
        }

        boolean isLike(Bytes other) {
            if (length != other.length) {
                return false;
            }
            for (int i = 0; i < length; i++) {
                if (byteAt(i) != other.byteAt(i)) {
                    return false;
                }
            }
            return true;
        }
    }

    /** The styles of the levels. */
    private static final class Styles {
        private final int[] kinds = new int[MAX_LEVEL + 1];
        private final int[] starts = new int[MAX_LEVEL + 1];
        private final boolean[] own = new boolean[MAX_LEVEL + 1];
        private final boolean[] on = new boolean[MAX_LEVEL + 1];

        void makeAsAtFirst() {
            for (int level = 1; level <= MAX_LEVEL; level++) {
                putKind(level, DECIMAL, 1);
                putMode(level, false, false);
            }
        }

        void copyStyles(Styles from) {
            for (int level = 1; level <= MAX_LEVEL; level++) {
                kinds[level] = from.kinds[level];
                starts[level] = from.starts[level];
                own[level] = from.own[level];
                on[level] = from.on[level];
            }
        }

        void putKind(int level, int kind, int start) {
            if (isLevel(level)) {
                kinds[level] = kind;
                starts[level] = start;
            }
        }

        void putMode(int level, boolean isOwn, boolean isOn) {
            if (isLevel(level)) {
                own[level] = isOwn;
                on[level] = isOn;
            }
        }

        int kindOf(int level) {
            return isLevel(level) ? kinds[level] : UNNUMBERED;
        }

        int startOf(int level) {
            return isLevel(level) ? starts[level] : 1;
        }

        boolean isOwn(int level) {
            return isLevel(level) && own[level];
        }

        boolean isOn(int level) {
            return isLevel(level) && on[level];
        }
    }

    /**
     * The headings by their places, and the styles of their levels.
     *
     * The place NONE stands for a root of level 0 ahead of all headings, whose branch is the whole row.
     */
    private static final class Outline {
        int count = 0;
        final Styles styles = new Styles();
        private final long[] names = new long[MAX_HEADINGS];
        private final int[] levels = new int[MAX_HEADINGS];
        private final boolean[] plain = new boolean[MAX_HEADINGS];
        private final boolean[] folded = new boolean[MAX_HEADINGS];
        private final int[] origins = new int[MAX_HEADINGS];

        // ---- what it holds

        boolean has(int place) {
            return place >= 0 && place < count;
        }

        long nameAt(int place) {
            return has(place) ? names[place] : 0;
        }

        int levelAt(int place) {
            return place >= 0 && place < count ? levels[place] : 0;
        }

        boolean isPlain(int place) {
            return has(place) && plain[place];
        }

        boolean isFolded(int place) {
            return has(place) && folded[place];
        }

        /** Where the heading stood in the outline that its range was taken from. */
        int originOf(int place) {
            return has(place) ? origins[place] : NONE;
        }

        int parentOf(int place) {
            int level = levelAt(place);
            for (int i = place - 1; i >= 0; i--) {
                if (levelAt(i) < level) {
                    return i;
                }
            }
            return NONE;
        }

        /** The place directly behind the branch. */
        int branchEnd(int place) {
            int level = levelAt(place);
            for (int i = place + 1; i < count; i++) {
                if (levelAt(i) <= level) {
                    return i;
                }
            }
            return count;
        }

        int greatestLevel(int from, int end) {
            int greatest = 0;
            for (int i = from; i < end; i++) {
                greatest = Math.max(greatest, levelAt(i));
            }
            return greatest;
        }

        int sumOfLevels() {
            int sum = 0;
            for (int i = 0; i < count; i++) {
                sum += levelAt(i);
            }
            return sum;
        }

        int countFolded() {
            int found = 0;
            for (int i = 0; i < count; i++) {
                if (isFolded(i)) {
                    found++;
                }
            }
            return found;
        }

        int siblingsAhead(int place) {
            int level = levelAt(place);
            int siblings = 0;
            for (int i = place - 1; i >= 0 && levelAt(i) >= level; i--) {
                if (levelAt(i) == level) {
                    siblings++;
                }
            }
            return siblings;
        }

        boolean hasChildren(int place) {
            return branchEnd(place) > place + 1;
        }

        int listChildren(int place, int[] list) {
            int level = levelAt(place) + 1;
            int end = branchEnd(place);
            int listed = 0;
            for (int i = place + 1; i < end; i++) {
                if (levelAt(i) == level && listed < list.length) {
                    list[listed] = i;
                    listed++;
                }
            }
            return listed;
        }

        int listVisible(int[] list) {
            int listed = 0;
            int greatestShown = MAX_LEVEL;
            for (int i = 0; i < count; i++) {
                if (levelAt(i) <= greatestShown && listed < list.length) {
                    list[listed] = i;
                    listed++;
                    greatestShown = isFolded(i) ? levelAt(i) : MAX_LEVEL;
                }
            }
            return listed;
        }

        boolean isSortedAhead(int place, int other, int by) {
            switch (by) {
                case BY_NAME: return nameAt(place) < nameAt(other);
                case BY_BRANCH: return branchEnd(place) - place > branchEnd(other) - other;
                default: return place > other;
            }
        }

        // ---- where a way leads

        /** The place that a heading gets which is inserted by a way. */
        int placeBy(int target, int way) {
            switch (way) {
                case WAY_AHEAD: return target;
                case WAY_FIRST: return target + 1;
                default: return branchEnd(target);
            }
        }

        int levelBy(int target, int way) {
            return way == WAY_AHEAD || way == WAY_BEHIND ? levelAt(target) : levelAt(target) + 1;
        }

        // ---- what changes it

        void makeEmpty() {
            count = 0;
            styles.makeAsAtFirst();
        }

        void copyAll(Outline from) {
            styles.copyStyles(from.styles);
            count = 0;
            addRange(from, 0, from.count);
        }

        void putPlain(int place, boolean isPlain) {
            if (has(place)) {
                plain[place] = isPlain;
            }
        }

        void putFolded(int place, boolean isFolded) {
            if (has(place)) {
                folded[place] = isFolded;
            }
        }

        void shiftLevels(int from, int end, int by) {
            for (int i = from; i < end; i++) {
                if (i >= 0 && i < count) {
                    levels[i] += by;
                }
            }
        }

        void addHeading(long name, int level) {
            if (count < MAX_HEADINGS) {
                names[count] = name;
                levels[count] = level;
                plain[count] = false;
                folded[count] = false;
                origins[count] = NONE;
                count++;
            }
        }

        void addRange(Outline from, int start, int end) {
            for (int i = start; i < end; i++) {
                if (i >= 0 && i < from.count && count < MAX_HEADINGS) {
                    names[count] = from.names[i];
                    levels[count] = from.levels[i];
                    plain[count] = from.plain[i];
                    folded[count] = from.folded[i];
                    origins[count] = i;
                    count++;
                }
            }
        }

        void takeRange(Outline from, int start, int end) {
            count = 0;
            addRange(from, start, end);
        }

        /** Becomes another outline in which a branch is moved; answers the place of its heading. */
        int takeMoved(Outline from, int place, int target, int way) {
            int end = from.branchEnd(place);
            int to = from.placeBy(target, way);
            int movedTo = to <= place ? to : to - (end - place);
            int deeper = from.levelBy(target, way) - from.levelAt(place);
            styles.copyStyles(from.styles);
            takeRange(from, 0, Math.min(to, place));
            if (to <= place) {
                addRange(from, place, end);
                addRange(from, to, place);
            } else {
                addRange(from, end, to);
                addRange(from, place, end);
            }
            addRange(from, Math.max(to, end), from.count);
            shiftLevels(movedTo, movedTo + end - place, deeper);
            return movedTo;
        }
    }

    /** The COUNTs and NUMBERs of an outline's headings. */
    private static final class Numbers {
        private final int[] kinds = new int[MAX_HEADINGS];
        private final int[] counts = new int[MAX_HEADINGS];
        // The place of the heading whose NUMBER stands ahead of the sign, or NONE.
        private final int[] prefixes = new int[MAX_HEADINGS];
        private final int[] numberedByLevel = new int[MAX_LEVEL + 1];
        private final int[] latestByLevel = new int[MAX_LEVEL + 1];
        private final int[] chain = new int[MAX_LEVEL];

        void countAll(Outline outline) {
            for (int level = 0; level <= MAX_LEVEL; level++) {
                numberedByLevel[level] = 0;
                latestByLevel[level] = NONE;
            }
            for (int i = 0; i < outline.count && i < MAX_HEADINGS; i++) {
                countHeading(outline, i, outline.levelAt(i));
            }
        }

        private void countHeading(Outline outline, int place, int level) {
            if (!isLevel(level) || place < 0 || place >= MAX_HEADINGS) {
                return;
            }
            latestByLevel[level] = place;
            if (level < MAX_LEVEL && !outline.styles.isOn(level + 1)) {
                numberedByLevel[level + 1] = 0;
            }
            kinds[place] = outline.styles.kindOf(level);
            counts[place] = NONE;
            prefixes[place] = NONE;
            if (outline.isPlain(place) || kinds[place] == UNNUMBERED) {
                return;
            }
            counts[place] = outline.styles.startOf(level) + numberedByLevel[level];
            numberedByLevel[level]++;
            int parent = latestByLevel[level - 1];
            if (!outline.styles.isOwn(level) && isNumbered(parent)) {
                prefixes[place] = parent;
            }
        }

        private static boolean isPlace(int place) {
            return place >= 0 && place < MAX_HEADINGS;
        }

        int countAt(int place) {
            return isPlace(place) ? counts[place] : NONE;
        }

        boolean isNumbered(int place) {
            return countAt(place) != NONE;
        }

        boolean isSame(int place, Numbers other, int otherPlace) {
            int one = place;
            int two = otherPlace;
            for (int i = 0; i < MAX_LEVEL && isPlace(one) && isPlace(two); i++) {
                if (!isSameSign(kinds[one], counts[one], other.kinds[two], other.counts[two])) {
                    return false;
                }
                one = prefixes[one];
                two = other.prefixes[two];
            }
            return one == NONE && two == NONE;
        }

        private static boolean isSameSign(int kind, int count, int otherKind, int otherCount) {
            if (kind == otherKind) {
                return count == otherCount;
            }
            // Signs of two styles can be alike: I is the ninth letter and the first Roman numeral.
            return signOf(kind, count) == signOf(otherKind, otherCount);
        }

        void addNumber(Bytes line, int place) {
            int signs = 0;
            int next = place;
            for (int i = 0; i < MAX_LEVEL && isPlace(next); i++) {
                chain[i] = next;
                signs++;
                next = prefixes[next];
            }
            for (int i = signs - 1; i >= 0; i--) {
                addSign(line, signOf(kinds[chain[i]], counts[chain[i]]));
                if (i > 0) {
                    line.add('.');
                }
            }
        }

        private static void addSign(Bytes line, long sign) {
            for (int shift = 56; shift >= 0; shift -= 8) {
                int one = (int) (sign >>> shift) & 255;
                if (one != 0) {
                    line.add(one);
                }
            }
        }

        /** The sign of a COUNT, its last byte as the least of the long; 0 for the empty one. */
        private static long signOf(int kind, int count) {
            if (count < 1) {
                return 0;
            }
            switch (kind) {
                case DECIMAL: return decimalSign(count);
                case UPPER: return letterSign(count, 'A');
                case LOWER: return letterSign(count, 'a');
                case ROMAN: return romanSign(count, 0);
                case SMALL: return romanSign(count, 'a' - 'A');
                default: return 0;
            }
        }

        private static long decimalSign(int count) {
            long sign = 0;
            int rest = count;
            for (int shift = 0; shift < 64 && rest > 0; shift += 8) {
                sign |= (long) ('0' + rest % 10) << shift;
                rest /= 10;
            }
            return sign;
        }

        private static long letterSign(int count, int first) {
            long sign = 0;
            int rest = count;
            for (int shift = 0; shift < 64 && rest > 0; shift += 8) {
                rest--;
                sign |= (long) (first + rest % 26) << shift;
                rest /= 26;
            }
            return sign;
        }

        private static long romanSign(int count, int smaller) {
            // No COUNT is greater than 158: the greatest START and 59 headings ahead.
            long sign = count >= 100 ? 'C' + smaller : 0;
            sign = withRomanDigit(sign, count / 10 % 10, 'X' + smaller, 'L' + smaller, 'C' + smaller);
            return withRomanDigit(sign, count % 10, 'I' + smaller, 'V' + smaller, 'X' + smaller);
        }

        private static long withRomanDigit(long sign, int digit, int one, int five, int ten) {
            if (digit == 9) {
                return (sign << 8 | one) << 8 | ten;
            }
            if (digit == 4) {
                return (sign << 8 | one) << 8 | five;
            }
            long longer = digit >= 5 ? sign << 8 | five : sign;
            for (int i = 0; i < digit % 5; i++) {
                longer = longer << 8 | one;
            }
            return longer;
        }
    }

    /** What there was ahead of the latest acts. */
    private static final class History {
        int count = 0;
        private int next = 0;
        private final Outline[] states = new Outline[MAX_UNDO];

        /** Keeps a copy, which it answers. */
        Outline keep(Outline outline) {
            int index = Math.floorMod(next, MAX_UNDO);
            Outline kept = states[index];
            if (kept == null) {
                kept = new Outline();
                states[index] = kept;
            }
            kept.copyAll(outline);
            next = Math.floorMod(index + 1, MAX_UNDO);
            count = Math.min(count + 1, MAX_UNDO);
            return kept;
        }

        void bringBack(Outline outline) {
            int index = Math.floorMod(next - 1, MAX_UNDO);
            Outline kept = states[index];
            if (kept != null && count > 0) {
                outline.copyAll(kept);
                next = index;
                count--;
            }
        }

        void forget() {
            count = 0;
        }
    }

    /** The tokens of a text, one at a time. */
    private static final class Tokens {
        static final int END = 0;
        static final int WORD = 1;
        static final int NUMBER = 2;
        static final int STAR = 3;
        static final int SEMICOLON = 4;
        static final int OTHER = 5;
        // Far above each range, so that longer runs of digits need no greater number.
        private static final int MAX_VALUE = 1000;

        int kind = END;
        int start = 0;
        // A word of at most 8 letters as a name; 0 for each other token.
        long word = 0;
        int value = 0;
        private int behind = 0;
        private final Bytes text;

        Tokens(Bytes text) {
            this.text = text;
        }

        void begin() {
            behind = 0;
            advance();
        }

        void advance() {
            start = behind;
            while (start < text.length && isSpace(text.byteAt(start))) {
                start++;
            }
            word = 0;
            value = 0;
            int sign = text.byteAt(start);
            if (isLetter(sign)) {
                readWord();
            } else if (isDigit(sign)) {
                readNumber();
            } else {
                kind = kindOf(sign);
                behind = Math.min(start + 1, text.length);
            }
        }

        private void readWord() {
            kind = WORD;
            behind = start;
            while (behind < text.length && isLetter(text.byteAt(behind))) {
                word = withLetter(word, behind - start, text.byteAt(behind));
                behind++;
            }
            if (behind - start > MAX_LETTERS) {
                word = 0;
            }
        }

        private void readNumber() {
            kind = NUMBER;
            behind = start;
            while (behind < text.length && isDigit(text.byteAt(behind))) {
                value = Math.min(10 * value + text.byteAt(behind) - '0', MAX_VALUE);
                behind++;
            }
        }

        /** The kind of a token of one byte, or of none. */
        private static int kindOf(int sign) {
            switch (sign) {
                case NONE: return END;
                case '*': return STAR;
                case ';': return SEMICOLON;
                default: return OTHER;
            }
        }

        private static boolean isSpace(int sign) {
            return sign == ' ' || sign == '\n';
        }

        private static boolean isDigit(int sign) {
            return sign >= '0' && sign <= '9';
        }

        boolean isWord(String only) {
            return indexIn(only) == 0;
        }

        /** The index of the token in a list of words with spaces between them, or NONE. */
        int indexIn(String words) {
            int index = 0;
            int letters = 0;
            long one = 0;
            for (int i = 0; i < words.length(); i++) {
                if (words.charAt(i) == ' ') {
                    if (one == word) {
                        return index;
                    }
                    index++;
                    letters = 0;
                    one = 0;
                } else {
                    one = withLetter(one, letters, words.charAt(i));
                    letters++;
                }
            }
            return one == word ? index : NONE;
        }

        /** 0 if the token is a number in a range, otherwise the error code. */
        int errorOfNumber(int least, int greatest) {
            if (kind != NUMBER) {
                return ERROR_TOKEN;
            }
            return value < least || value > greatest ? ERROR_RANGE : 0;
        }

        /** Goes on behind a semicolon: 0, or the error code if there is none. */
        int passSemicolon() {
            if (kind != SEMICOLON) {
                return ERROR_TOKEN;
            }
            advance();
            return 0;
        }

        boolean passWord(String only) {
            if (!isWord(only)) {
                return false;
            }
            advance();
            return true;
        }
    }

    /** Reads outlines. Its methods answer 0, or the error code; the token that is wrong is not passed. */
    private static final class OutlineReader {
        private final Tokens tokens;

        OutlineReader(Tokens tokens) {
            this.tokens = tokens;
        }

        int readInto(Outline outline) {
            outline.makeEmpty();
            tokens.begin();
            int error = 0;
            for (int i = 0; i < MAX_TEXT && error == 0 && tokens.kind != Tokens.END; i++) {
                error = tokens.kind == Tokens.STAR ? readHeading(outline) : readStyle(outline);
            }
            return error;
        }

        private int readHeading(Outline outline) {
            if (outline.count >= MAX_HEADINGS) {
                return ERROR_FULL;
            }
            int greatest = outline.levelAt(outline.count - 1) + 1;
            int level = 0;
            while (level <= MAX_LEVEL && tokens.kind == Tokens.STAR) {
                level++;
                if (level > MAX_LEVEL) {
                    return ERROR_RANGE;
                }
                if (level > greatest) {
                    return ERROR_DEPTH;
                }
                tokens.advance();
            }
            if (tokens.word == 0) {
                return ERROR_TOKEN;
            }
            int place = outline.count;
            outline.addHeading(tokens.word, level);
            tokens.advance();
            outline.putPlain(place, tokens.passWord("plain"));
            outline.putFolded(place, tokens.passWord("folded"));
            return tokens.passSemicolon();
        }

        private int readStyle(Outline outline) {
            if (!tokens.passWord("style")) {
                return ERROR_TOKEN;
            }
            int error = tokens.errorOfNumber(1, MAX_LEVEL);
            if (error != 0) {
                return error;
            }
            int level = tokens.value;
            tokens.advance();
            int kind = tokens.indexIn(STYLE_WORDS);
            if (kind == NONE) {
                return ERROR_TOKEN;
            }
            tokens.advance();
            int start = 1;
            if (tokens.passWord("from")) {
                error = tokens.errorOfNumber(1, MAX_START);
                if (error != 0) {
                    return error;
                }
                start = tokens.value;
                tokens.advance();
            }
            boolean isOwn = tokens.passWord("own");
            boolean isOn = tokens.passWord("on");
            outline.styles.putKind(level, kind, start);
            outline.styles.putMode(level, isOwn, isOn);
            return tokens.passSemicolon();
        }
    }

    /** Reads scripts and holds their commands. */
    private static final class Script {
        int count = 0;
        private final int[] commands = new int[MAX_COMMANDS];
        private final int[] placesOf = new int[MAX_COMMANDS];
        private final int[] targets = new int[MAX_COMMANDS];
        private final int[] ways = new int[MAX_COMMANDS];
        private final Tokens tokens;

        Script(Tokens tokens) {
            this.tokens = tokens;
        }

        private boolean has(int index) {
            return index >= 0 && index < count;
        }

        int commandOf(int index) {
            return has(index) ? commands[index] : NONE;
        }

        int placeOf(int index) {
            return has(index) ? placesOf[index] : NONE;
        }

        /** The second place; the first one again if the command has one alone. */
        int targetOf(int index) {
            return has(index) ? targets[index] : NONE;
        }

        int wayOf(int index) {
            return has(index) ? ways[index] : NONE;
        }

        /** 0, or the error code; the token that is wrong is not passed. */
        int readAll() {
            count = 0;
            tokens.begin();
            int error = 0;
            for (int i = 0; i < MAX_TEXT && error == 0 && tokens.kind != Tokens.END; i++) {
                error = readCommand();
            }
            return error;
        }

        private int readCommand() {
            int command = tokens.indexIn(COMMAND_WORDS);
            if (command == NONE) {
                return ERROR_TOKEN;
            }
            if (count >= MAX_COMMANDS) {
                return ERROR_FULL;
            }
            tokens.advance();
            int error = tokens.errorOfNumber(0, MAX_HEADINGS - 1);
            if (error != 0) {
                return error;
            }
            int place = tokens.value;
            tokens.advance();
            if (command == COMMAND_MOVE) {
                return readMove(place);
            }
            addCommand(command, place, place, WAY_AHEAD);
            return tokens.passSemicolon();
        }

        /** Reads what stands behind the first place. */
        private int readMove(int place) {
            int error = tokens.errorOfNumber(0, MAX_HEADINGS - 1);
            if (error != 0) {
                return error;
            }
            int target = tokens.value;
            tokens.advance();
            int way = tokens.indexIn(WAY_WORDS);
            if (way == NONE) {
                return ERROR_TOKEN;
            }
            tokens.advance();
            addCommand(COMMAND_MOVE, place, target, way);
            return tokens.passSemicolon();
        }

        private void addCommand(int command, int place, int target, int way) {
            if (count < MAX_COMMANDS) {
                commands[count] = command;
                placesOf[count] = place;
                targets[count] = target;
                ways[count] = way;
                count++;
            }
        }
    }
}
