import java.util.NoSuchElementException;

/**
 * A learned index of whole numbers: a sorted row of keys is described by straight pieces, each of
 * which guesses the place of a key with at most a told error; late keys wait in a buffer until they
 * are merged, and pieces are split and joined by that.
 */
public final class LearnedLedge {
    public static final int NONE = -1;

    private static final int FARTHEST_KEY = 1000000;
    private static final int MOST_KEYS = 256;
    private static final int MOST_STEP = 10000;
    private static final int MOST_AT_ONCE = 100;
    private static final int MOST_BOUND = 20;
    private static final int MOST_ROOM = 16;
    private static final int FIRST_BOUND = 2;
    private static final int FIRST_ROOM = 4;

    // An int is halved to nothing, and Euclid's steps on two ints are over, long before this.
    private static final int MOST_HALVINGS = 64;

    private final Numbers keys = new Numbers(MOST_KEYS);
    /** One for each key of the row: 1 if it is marked as removed, otherwise 0. */
    private final Numbers marks = new Numbers(MOST_KEYS);
    private final Numbers buffer = new Numbers(MOST_ROOM);

    private final Numbers starts = new Numbers(MOST_KEYS);
    private final Numbers rises = new Numbers(MOST_KEYS);
    private final Numbers runs = new Numbers(MOST_KEYS);
    /** The slopes that are possible for the last piece, kept so that a key can follow it at once. */
    private final SlopeRange tail = new SlopeRange();

    // Where a new row is put together; made once, so that no call makes an array.
    private final Numbers freshKeys = new Numbers(MOST_KEYS);
    private final Numbers freshStarts = new Numbers(MOST_KEYS);

    private int bound = FIRST_BOUND;
    private int room = FIRST_ROOM;
    private int markCount = 0;
    private int mergeCount = 0;
    private int splitCount = 0;
    private int joinCount = 0;

    public LearnedLedge() {
    }

    // ---- keys that come and go

    public int append(int key) throws IllegalArgumentException, IllegalStateException {
        needKey(key);
        needToFollow(key, 1);
        addLast(key);
        return starts.length();
    }

    public int appendMany(int first, int step, int many)
            throws IllegalArgumentException, IllegalStateException {
        if (step < 1 || step > MOST_STEP || many < 1 || many > MOST_AT_ONCE) {
            throw new IllegalArgumentException("step or many out of range");
        }
        long last = first + (long) step * (many - 1);
        needKey(first);
        needKey(last);
        needToFollow(first, many);
        for (int added = 0; added < many; added++) {
            addLast(first + step * added);
        }
        return starts.length();
    }

    public int insert(int key) throws IllegalArgumentException, IllegalStateException {
        needKey(key);
        int found = keys.indexOf(key);
        if (isThere(key) || found == NONE && allKeys() >= MOST_KEYS) {
            throw new IllegalStateException("key is there, or no room");
        }
        if (found == NONE) {
            addLate(key);
        } else {
            marks.put(found, 0);
            markCount--;
        }
        return buffer.length();
    }

    public int remove(int key) throws NoSuchElementException {
        if (!isThere(key)) {
            throw new NoSuchElementException("key is not there");
        }
        int found = keys.indexOf(key);
        if (found == NONE) {
            buffer.takeOut(buffer.below(key));
        } else {
            marks.put(found, 1);
            markCount++;
        }
        return keysThere();
    }

    public int merge() {
        mergeAll();
        return starts.length();
    }

    public int rebuild(int bound, int room) throws IllegalArgumentException {
        if (bound < 0 || bound > MOST_BOUND || room < 1 || room > MOST_ROOM) {
            throw new IllegalArgumentException("bound or room out of range");
        }
        this.bound = bound;
        this.room = room;
        gatherAll();
        clearRow();
        // Keys that come one by one at the end are cut just as the whole row is.
        for (int place = 0; place < freshKeys.length(); place++) {
            addLast(freshKeys.at(place));
        }
        return starts.length();
    }

    // ---- keys in their order

    public int size() {
        return keysThere();
    }

    public boolean contains(int key) {
        return isThere(key);
    }

    public int rank(int key) {
        return thereBelow(key);
    }

    public int select(int place) throws IndexOutOfBoundsException {
        if (place < 0 || place >= keysThere()) {
            throw new IndexOutOfBoundsException("not so many keys");
        }
        return keyThere(place);
    }

    public int ceiling(int key) throws NoSuchElementException {
        int less = thereBelow(key);
        if (less >= keysThere()) {
            throw new NoSuchElementException("all keys are less");
        }
        return keyThere(less);
    }

    public int count(int low, int high) {
        if (low > high) {
            return 0;
        }
        return thereBelow(high) - thereBelow(low) + (isThere(high) ? 1 : 0);
    }

    // ---- looking up in the row

    public int place(int key) {
        return keys.below(key);
    }

    public long guess(int key) throws IllegalArgumentException {
        needKey(key);
        return guessBy(pieceOf(key), key);
    }

    public int looks(int key) throws IllegalArgumentException {
        needKey(key);
        int piece = pieceOf(key);
        return piece == NONE ? 0 : looksBy(piece, key);
    }

    public int worstError() {
        long worst = 0;
        for (int piece = 0; piece < starts.length(); piece++) {
            int end = endOf(piece);
            for (int place = starts.at(piece); place < end; place++) {
                long error = Math.abs(place - guessBy(piece, keys.at(place)));
                worst = Math.max(worst, error);
            }
        }
        return (int) worst;
    }

    // ---- pieces

    public int pieces() {
        return starts.length();
    }

    public int start(int piece) throws IndexOutOfBoundsException {
        needPiece(piece);
        return starts.at(piece);
    }

    public int firstKey(int piece) throws IndexOutOfBoundsException {
        needPiece(piece);
        return firstOf(piece);
    }

    public int rise(int piece) throws IndexOutOfBoundsException {
        needPiece(piece);
        return rises.at(piece);
    }

    public int run(int piece) throws IndexOutOfBoundsException {
        needPiece(piece);
        return runs.at(piece);
    }

    public int slopes() {
        int unlike = 0;
        for (int piece = 0; piece < starts.length(); piece++) {
            if (firstAlike(piece) == piece) {
                unlike++;
            }
        }
        return unlike;
    }

    public int commonest() {
        int best = NONE;
        int most = 0;
        for (int piece = 0; piece < starts.length(); piece++) {
            // Those ahead of the piece need no look: with one alike there, fewer are counted here.
            int alike = alikeFrom(piece);
            if (alike > most) {
                most = alike;
                best = piece;
            }
        }
        return best;
    }

    // ---- the buffer and its work

    public int buffered() {
        return buffer.length();
    }

    public int marked() {
        return markCount;
    }

    public int rowSize() {
        return keys.length();
    }

    public int merges() {
        return mergeCount;
    }

    public int splits() {
        return splitCount;
    }

    public int joins() {
        return joinCount;
    }

    // ---- what the calls need

    private static void needKey(long key) {
        if (key < -FARTHEST_KEY || key > FARTHEST_KEY) {
            throw new IllegalArgumentException("key out of range");
        }
    }

    private void needPiece(int piece) {
        if (!starts.has(piece)) {
            throw new IndexOutOfBoundsException("no such piece");
        }
    }

    /** Keys from the first one on come behind all keys that are kept, marked or not, and have room. */
    private void needToFollow(int first, int many) {
        boolean behindAll = keys.below(first) == keys.length() && buffer.below(first) == buffer.length();
        if (allKeys() + many > MOST_KEYS || !behindAll) {
            throw new IllegalStateException("no room, or a key is not less");
        }
    }

    // ---- what is there

    private int allKeys() {
        return keys.length() + buffer.length();
    }

    private int keysThere() {
        return allKeys() - markCount;
    }

    private boolean isThere(int key) {
        int found = keys.indexOf(key);
        return found == NONE ? buffer.indexOf(key) != NONE : marks.at(found) == 0;
    }

    private int thereBelow(int key) {
        int end = keys.below(key);
        int there = buffer.below(key);
        for (int place = 0; place < end; place++) {
            there += 1 - marks.at(place);
        }
        return there;
    }

    /** The key that has the place among those that are there; the place is tested by the caller. */
    private int keyThere(int place) {
        gatherAll();
        return freshKeys.at(place);
    }

    // ---- adding keys

    private void addLast(int key) {
        int place = keys.length();
        keys.push(key);
        marks.push(0);
        if (starts.length() > 0 && tail.take(key, place)) {
            noteTailSlope();
        } else {
            beginPiece(key, place);
        }
    }

    private void addLate(int key) {
        buffer.squeezeIn(buffer.below(key), key);
        if (buffer.length() >= room) {
            mergeAll();
        }
    }

    private void clearRow() {
        keys.clear();
        marks.clear();
        markCount = 0;
        buffer.clear();
        clearPieces();
    }

    // ---- pieces and their guesses

    private void clearPieces() {
        starts.clear();
        rises.clear();
        runs.clear();
    }

    private void beginPiece(int key, int place) {
        tail.begin(key, place, bound);
        starts.push(place);
        rises.push(tail.leastRise());
        runs.push(tail.leastRun());
    }

    private void noteTailSlope() {
        int last = starts.length() - 1;
        rises.put(last, tail.leastRise());
        runs.put(last, tail.leastRun());
    }

    private int firstOf(int piece) {
        return keys.at(starts.at(piece));
    }

    private int endOf(int piece) {
        return starts.has(piece + 1) ? starts.at(piece + 1) : keys.length();
    }

    /** The number of the piece of a key that is in its range; NONE (-1) if it has none. */
    private int pieceOf(int key) {
        int notGreater = keys.below(key + 1);
        return starts.below(notGreater) - 1;
    }

    private long guessBy(int piece, int key) {
        long run = runs.at(piece);
        // A piece that is not there has no run either.
        if (run < 1) {
            return NONE;
        }
        long width = (long) key - firstOf(piece);
        return starts.at(piece) + Math.floorDiv(rises.at(piece) * width, run);
    }

    private int looksBy(int piece, int key) {
        long guess = guessBy(piece, key);
        int begin = starts.at(piece);
        int end = endOf(piece);
        int low = (int) Math.min(end, Math.max(begin, guess - bound));
        int high = (int) Math.min(end, guess + bound + 1);
        int looked = 0;
        for (; looked < MOST_HALVINGS && low < high; looked++) {
            int middle = (low + high) / 2;
            if (keys.at(middle) < key) {
                low = middle + 1;
            } else {
                high = middle;
            }
        }
        return looked;
    }

    private boolean alike(int piece, int other) {
        return rises.at(piece) == rises.at(other) && runs.at(piece) == runs.at(other);
    }

    private int firstAlike(int piece) {
        for (int other = 0; other < piece; other++) {
            if (alike(piece, other)) {
                return other;
            }
        }
        return piece;
    }

    private int alikeFrom(int piece) {
        int found = 0;
        for (int other = piece; other < starts.length(); other++) {
            if (alike(piece, other)) {
                found++;
            }
        }
        return found;
    }

    // ---- merging

    private void mergeAll() {
        freshKeys.clear();
        freshStarts.clear();
        if (starts.length() == 0) {
            gather(0, 0, 0, buffer.length());
            cutFresh(0);
        }
        for (int piece = 0; piece < starts.length(); piece++) {
            mergePiece(piece);
        }
        clearRow();
        for (int place = 0; place < freshKeys.length(); place++) {
            keys.push(freshKeys.at(place));
            marks.push(0);
        }
        joinFresh();
        mergeCount++;
    }

    private void mergePiece(int piece) {
        // Keys that are less than all of the row come to the first piece, as the others to theirs.
        int lateFrom = piece == 0 ? 0 : buffer.below(firstOf(piece));
        int lateTo = starts.has(piece + 1) ? buffer.below(firstOf(piece + 1)) : buffer.length();
        int begin = freshKeys.length();
        boolean lost = gather(starts.at(piece), endOf(piece), lateFrom, lateTo);
        if (lost || lateFrom < lateTo) {
            cutFresh(begin);
        } else {
            freshStarts.push(begin);
        }
    }

    private void gatherAll() {
        freshKeys.clear();
        gather(0, keys.length(), 0, buffer.length());
    }

    /** Puts the unmarked ones of some keys of the row, and some of the buffer, behind the fresh keys. */
    private boolean gather(int from, int to, int lateFrom, int lateTo) {
        boolean lost = false;
        int late = lateFrom;
        for (int place = from; place < to; place++) {
            int key = keys.at(place);
            for (; late < lateTo && buffer.at(late) < key; late++) {
                freshKeys.push(buffer.at(late));
            }
            if (marks.at(place) == 0) {
                freshKeys.push(key);
            } else {
                lost = true;
            }
        }
        for (; late < lateTo; late++) {
            freshKeys.push(buffer.at(late));
        }
        return lost;
    }

    /** Cuts the fresh keys from a place on, if there are any, and counts the splits. */
    private void cutFresh(int begin) {
        for (int place = begin; place < freshKeys.length(); place++) {
            int key = freshKeys.at(place);
            if (place == begin || !tail.take(key, place)) {
                tail.begin(key, place, bound);
                freshStarts.push(place);
                splitCount += place == begin ? 0 : 1;
            }
        }
    }

    /** Makes the pieces of the row from the fresh ones, joined wherever two that meet fit one. */
    private void joinFresh() {
        for (int fresh = 0; fresh < freshStarts.length(); fresh++) {
            int begin = freshStarts.at(fresh);
            int end = freshStarts.has(fresh + 1) ? freshStarts.at(fresh + 1) : keys.length();
            if (fresh > 0 && tailTakes(begin, end)) {
                joinCount++;
            } else {
                beginPiece(keys.at(begin), begin);
                tailTakes(begin + 1, end);
            }
            noteTailSlope();
        }
    }

    /** Narrows the tail by some keys; where not all fit, the tail must be begun anew. */
    private boolean tailTakes(int from, int to) {
        for (int place = from; place < to; place++) {
            if (!tail.take(keys.at(place), place)) {
                return false;
            }
        }
        return true;
    }

    /** A list of numbers with a limit. It tests every index, so that no caller needs to. */
    private static final class Numbers {
        private final int[] items;
        private int length;

        Numbers(int limit) {
            items = new int[Math.max(0, limit)];
            length = 0;
        }

        int length() {
            return length;
        }

        boolean has(int index) {
            return index >= 0 && index < length && index < items.length;
        }

        int at(int index) {
            return has(index) ? items[index] : 0;
        }

        void put(int index, int item) {
            if (has(index)) {
                items[index] = item;
            }
        }

        void push(int item) {
            if (length >= 0 && length < items.length) {
                items[length] = item;
                length++;
            }
        }

        void clear() {
            length = 0;
        }

        void squeezeIn(int index, int item) {
            push(item);
            for (int behind = length - 1; behind > index; behind--) {
                put(behind, at(behind - 1));
            }
            put(index, item);
        }

        void takeOut(int index) {
            if (has(index)) {
                for (int ahead = index; ahead < length - 1; ahead++) {
                    put(ahead, at(ahead + 1));
                }
                length--;
            }
        }

        /** How many items, of a rising list, are less than a number. */
        int below(int number) {
            int low = 0;
            int high = length;
            for (int halving = 0; halving < MOST_HALVINGS && low < high; halving++) {
                int middle = (low + high) / 2;
                if (at(middle) < number) {
                    low = middle + 1;
                } else {
                    high = middle;
                }
            }
            return low;
        }

        /** Where a rising list has a number; NONE if it has it not. */
        int indexOf(int number) {
            int index = below(number);
            return has(index) && items[index] == number ? index : NONE;
        }
    }

    /** The slopes that are possible for a piece whose keys come one by one. */
    private static final class SlopeRange {
        private int originKey;
        private int originPlace;
        private int error;
        // The least slope and the greatest one, as fractions; 1 / 0 is above all slopes.
        private long leastRise = 0;
        private long leastRun = 1;
        private long mostRise = 1;
        private long mostRun = 0;

        void begin(int key, int place, int bound) {
            originKey = key;
            originPlace = place;
            error = bound;
            leastRise = 0;
            leastRun = 1;
            mostRise = 1;
            mostRun = 0;
        }

        /** Takes a key, greater than those ahead, if a slope is left then; otherwise nothing changes. */
        boolean take(int key, int place) {
            long run = (long) key - originKey;
            long lowRise = (long) place - originPlace - error;
            long highRise = lowRise + 2L * error;
            boolean higher = lowRise * leastRun > leastRise * run;
            boolean lower = highRise * mostRun < mostRise * run;
            if (higher && lowRise * mostRun > mostRise * run
                    || lower && highRise * leastRun < leastRise * run) {
                return false;
            }
            if (higher) {
                leastRise = lowRise;
                leastRun = run;
            }
            if (lower) {
                mostRise = highRise;
                mostRun = run;
            }
            return true;
        }

        int leastRise() {
            return (int) (leastRise / divisor());
        }

        int leastRun() {
            return (int) (leastRun / divisor());
        }

        /** What both sides of the least slope have in common; at least 1. */
        private long divisor() {
            long common = leastRun;
            long rest = leastRise;
            for (int step = 0; step < MOST_HALVINGS && rest != 0; step++) {
                long next = common % rest;
                common = rest;
                rest = next;
            }
            return common < 1 ? 1 : common;
        }
    }
}
