import java.util.NoSuchElementException;

/** The boundary cases of the promises, one by one: a test for each sentence, with it above. */
public final class CallsEdgesTest {
    private static final Class<?> ARGUMENT = IllegalArgumentException.class;
    private static final Class<?> STATE = IllegalStateException.class;
    private static final Class<?> INDEX = IndexOutOfBoundsException.class;
    private static final Class<?> ELEMENT = NoSuchElementException.class;
    private static final int LEAST = -1000000;
    private static final int GREATEST = 1000000;
    private static final int[] NO_KEYS = {Integer.MIN_VALUE, LEAST - 1, GREATEST + 1, Integer.MAX_VALUE};

    private CallsEdgesTest() {
    }

    public static void main(String[] args) {
        newObjectHasNoKeys();
        newObjectHasRoomForFour();
        appendFitsOrBegins();
        appendOutOfRange();
        appendNotBehindAll();
        appendManyOneByOne();
        appendManyStepAndMany();
        appendManyKeysOutOfRange();
        appendManyNotBehindAll();
        insertTakesMarkAway();
        insertFillsTheBuffer();
        insertOutOfRange();
        insertKeyThereOrFull();
        removeFromBufferOrRow();
        removeReturnsHowMany();
        removeNotThere();
        mergeWithOrWithoutBuffer();
        rebuildWithTheKeysThere();
        rebuildAnotherBound();
        rebuildAnotherRoom();
        rebuildCountsNothing();
        rebuildOutOfRange();
        sizes();
        containsAnyInt();
        rankAnyInt();
        selectPlaces();
        selectNotSoMany();
        ceilingAnyInt();
        ceilingNone();
        countBothIncluded();
        countLowAboveHigh();
        placeAnyInt();
        guessNone();
        guessOutOfRange();
        looksLow();
        looksHigh();
        looksHalving();
        looksNoPiece();
        looksOutOfRange();
        worstErrorWithoutKeys();
        worstErrorOfTheRow();
        pieceCounts();
        pieceNumbers();
        slopeZero();
        lowestTerms();
        slopesUnlike();
        commonestOfSeveral();
        commonestNone();
        bufferedAndMarked();
        rowSizeWithMarked();
        countsOfWork();
        callsToTheLast();
        Check.end("CallsEdgesTest");
    }

    private static LearnedLedge with(int bound, int room, int... keys) {
        return Ledges.with(bound, room, keys);
    }

    private static int one(boolean answer) {
        return answer ? 1 : 0;
    }

    /** Promise 1: "Makes an index without keys". */
    private static void newObjectHasNoKeys() {
        Check.due("1 looks:", "keys pieces size 0 pieces 0 row 0 marked 0 buffered 0 merges 0 splits 0 joins 0",
                Check.looksLike(new LearnedLedge()));
        Check.allowed("1 no key is there", 0, LearnedLedge::new, x -> x.count(Integer.MIN_VALUE, Integer.MAX_VALUE));
        Check.allowed("1 nothing to merge", 0, LearnedLedge::new, LearnedLedge::merge);
    }

    /** Promise 1: "the buffer has room for 4 keys." */
    private static void newObjectHasRoomForFour() {
        LearnedLedge ledge = new LearnedLedge();
        Check.due("1 first", 1, ledge.insert(30));
        Check.due("1 second", 2, ledge.insert(20));
        Check.due("1 third", 3, ledge.insert(10));
        Check.due("1 not full yet", 0, ledge.merges());
        Check.due("1 fourth", 0, ledge.insert(0));
        Check.due("1 full by it", 1, ledge.merges());
    }

    /** Promise 2: "If it fits the last piece, that takes it, otherwise it begins a new one." */
    private static void appendFitsOrBegins() {
        LearnedLedge ledge = with(0, 4);
        Check.due("2 without pieces", 1, ledge.append(0));
        Check.due("2 two always fit", 1, ledge.append(7));
        Check.due("2 does not fit", 2, ledge.append(8));
        Check.due("2 the last one takes it", 2, ledge.append(GREATEST));
        Check.due("2 its place", 3, ledge.place(GREATEST));
        LearnedLedge marked = with(0, 4, 0, 10);
        marked.remove(0);
        marked.remove(10);
        Check.due("2 marked keys have to fit too", 2, marked.append(21));
        LearnedLedge line = with(0, 4, 0, 10);
        line.remove(0);
        line.remove(10);
        Check.due("2 in line with marked ones", 1, line.append(20));
        LearnedLedge late = new LearnedLedge();
        late.insert(0);
        Check.due("2 behind a buffer alone", 1, late.append(1));
        Check.due("2 its place is the first one", 0, late.place(1));
    }

    /** Promise 2: "Throws IllegalArgumentException if key is out of its range". */
    private static void appendOutOfRange() {
        Check.allowed("2 the greatest", 1, Ledges::mixed, x -> x.append(GREATEST));
        Check.allowed("2 the least", 1, LearnedLedge::new, x -> x.append(LEAST));
        for (int key : NO_KEYS) {
            Check.refused("2 " + key, ARGUMENT, Ledges::mixed, x -> x.append(key));
            Check.refused("2 empty, " + key, ARGUMENT, LearnedLedge::new, x -> x.append(key));
        }
    }

    /** Promise 2: "if row and buffer have 256 keys, or one of their keys, marked or not, is not less than key". */
    private static void appendNotBehindAll() {
        Check.allowed("2 255 keys", 1, Ledges::oneShort, x -> x.append(510));
        Check.refused("2 256 keys", STATE, Ledges::fullByRow, x -> x.append(511));
        Check.refused("2 256 keys, some marked", STATE, Ledges::fullByMarks, x -> x.append(511));
        Check.refused("2 256 keys, one in the buffer", STATE, Ledges::fullByBuffer, x -> x.append(509));
        Check.refused("2 the row's last key", STATE, () -> with(2, 4, 0, 10), x -> x.append(10));
        Check.refused("2 less than it", STATE, () -> with(2, 4, 0, 10), x -> x.append(9));
        Check.allowed("2 greater than it", 1, () -> with(2, 4, 0, 10), x -> x.append(11));
        Check.refused("2 the row's last key, marked", STATE, CallsEdgesTest::lastMarked, x -> x.append(10));
        Check.refused("2 less than the marked one", STATE, CallsEdgesTest::lastMarked, x -> x.append(9));
        Check.allowed("2 greater than the marked one", 1, CallsEdgesTest::lastMarked, x -> x.append(11));
        Check.refused("2 the buffer's key", STATE, Ledges::mixed, x -> x.append(25));
        Check.refused("2 less than the buffer's", STATE, Ledges::mixed, x -> x.append(24));
        Check.allowed("2 greater than the buffer's", 1, Ledges::mixed, x -> x.append(26));
        Check.refused("2 less than all", STATE, Ledges::mixed, x -> x.append(-1));
        Check.refused("2 the greatest key again", STATE, () -> with(2, 4, GREATEST), x -> x.append(GREATEST));
    }

    private static LearnedLedge lastMarked() {
        LearnedLedge ledge = with(2, 4, 0, 10);
        ledge.remove(10);
        return ledge;
    }

    /** Promise 3: "one by one: the first one, and each next one is the one ahead of it plus the step." */
    private static void appendManyOneByOne() {
        LearnedLedge ledge = with(0, 4, 0, 10);
        Check.due("3 first in line, then not", 2, ledge.appendMany(20, 1, 3));
        Check.due("3 the piece begins at", 3, ledge.start(1));
        Check.due("3 the last key", 22, ledge.select(4));
        Check.due("3 how many", 5, ledge.rowSize());
        Check.allowed("3 one key is just appended", 2, () -> with(0, 4, 0, 10), x -> x.appendMany(21, 10000, 1));
    }

    /** Promise 3: "step: 1 to 10000" and "many: 1 to 100". */
    private static void appendManyStepAndMany() {
        Check.allowed("3 step 1", 1, LearnedLedge::new, x -> x.appendMany(0, 1, 2));
        Check.allowed("3 step 10000", 1, LearnedLedge::new, x -> x.appendMany(0, 10000, 2));
        Check.allowed("3 many 1", 1, LearnedLedge::new, x -> x.appendMany(0, 5, 1));
        Check.allowed("3 many 100", 1, LearnedLedge::new, x -> x.appendMany(0, 5, 100));
        for (int step : new int[] {0, -1, 10001, Integer.MIN_VALUE, Integer.MAX_VALUE}) {
            Check.refused("3 step " + step, ARGUMENT, Ledges::mixed, x -> x.appendMany(30, step, 2));
            Check.refused("3 one key, step " + step, ARGUMENT, Ledges::mixed, x -> x.appendMany(30, step, 1));
        }
        for (int many : new int[] {0, -1, 101, Integer.MIN_VALUE, Integer.MAX_VALUE}) {
            Check.refused("3 many " + many, ARGUMENT, Ledges::mixed, x -> x.appendMany(30, 1, many));
        }
        // In int, 65536 * 65536 is 0: the last key would seem to be the first one.
        Check.refused("3 a product that wraps", ARGUMENT, Ledges::mixed, x -> x.appendMany(30, 65536, 65537));
    }

    /** Promise 3: "or one of the keys would be" out of its range. */
    private static void appendManyKeysOutOfRange() {
        Check.allowed("3 the first one just in", 1, LearnedLedge::new, x -> x.appendMany(LEAST, 1, 3));
        Check.refused("3 the first one just out", ARGUMENT, LearnedLedge::new, x -> x.appendMany(LEAST - 1, 1, 3));
        Check.allowed("3 the last one just in", 1, LearnedLedge::new, x -> x.appendMany(GREATEST - 2, 1, 3));
        Check.refused("3 the last one just out", ARGUMENT, LearnedLedge::new, x -> x.appendMany(GREATEST - 1, 1, 3));
        Check.allowed("3 far steps just in", 1, LearnedLedge::new, x -> x.appendMany(10000, 10000, 100));
        Check.refused("3 far steps just out", ARGUMENT, LearnedLedge::new, x -> x.appendMany(10001, 10000, 100));
        for (int first : NO_KEYS) {
            Check.refused("3 from " + first, ARGUMENT, Ledges::mixed, x -> x.appendMany(first, 10000, 100));
            Check.refused("3 alone, " + first, ARGUMENT, Ledges::mixed, x -> x.appendMany(first, 1, 1));
        }
    }

    /** Promise 3: "if row and buffer would have more than 256 keys, or one of their keys .. is not less than first". */
    private static void appendManyNotBehindAll() {
        Check.allowed("3 256 keys then", 1, () -> Ledges.evens(156), x -> x.appendMany(312, 2, 100));
        Check.refused("3 257 keys then", STATE, () -> Ledges.evens(157), x -> x.appendMany(314, 2, 100));
        Check.refused("3 one more than 256", STATE, Ledges::fullByRow, x -> x.appendMany(512, 2, 1));
        Check.refused("3 with the buffer's", STATE, Ledges::fullByBuffer, x -> x.appendMany(512, 2, 1));
        Check.refused("3 with marked ones", STATE, Ledges::fullByMarks, x -> x.appendMany(512, 2, 1));
        Check.refused("3 the row's last key", STATE, () -> with(2, 4, 0, 10), x -> x.appendMany(10, 5, 2));
        Check.allowed("3 one above", 1, () -> with(2, 4, 0, 10), x -> x.appendMany(11, 5, 2));
        Check.refused("3 the last key, marked", STATE, CallsEdgesTest::lastMarked, x -> x.appendMany(10, 5, 2));
        Check.allowed("3 above the marked one", 1, CallsEdgesTest::lastMarked, x -> x.appendMany(11, 5, 2));
        Check.refused("3 the buffer's key", STATE, Ledges::mixed, x -> x.appendMany(25, 5, 2));
        Check.refused("3 below it, though the next is above", STATE, Ledges::mixed, x -> x.appendMany(24, 5, 2));
        Check.allowed("3 above the buffer's", 1, Ledges::mixed, x -> x.appendMany(26, 5, 2));
    }

    /** Promise 4: "If the row has it, marked, the mark is taken away". */
    private static void insertTakesMarkAway() {
        LearnedLedge ledge = with(2, 1, 0, 10, 20);
        ledge.remove(0);
        ledge.remove(20);
        Check.due("4 the buffer stays empty", 0, ledge.insert(0));
        Check.due("4 nothing is merged", 0, ledge.merges());
        Check.due("4 one mark is left", 1, ledge.marked());
        Check.due("4 the last one of the row", 0, ledge.insert(20));
        Check.due("4 no mark", 0, ledge.marked());
        Check.due("4 three keys", 3, ledge.size());
        LearnedLedge nearly = with(2, 2, 0, 10);
        nearly.insert(5);
        nearly.remove(10);
        Check.due("4 a buffer with room for one more", 1, nearly.insert(10));
        Check.due("4 is not full by it", 0, nearly.merges());
        Check.allowed("4 full index", 0, Ledges::fullByMarks, x -> x.insert(4));
    }

    /** Promise 4: "otherwise it comes into the buffer, and if that is full by it, all is merged." */
    private static void insertFillsTheBuffer() {
        Check.allowed("4 room 1", 0, () -> with(2, 1, 0), x -> x.insert(5));
        Check.allowed("4 room 2", 1, () -> with(2, 2, 0), x -> x.insert(5));
        LearnedLedge ledge = with(2, 16, 0);
        for (int late = 1; late < 16; late++) {
            Check.due("4 room 16", late, ledge.insert(-late));
        }
        Check.due("4 not full by fifteen", 0, ledge.merges());
        ledge.remove(-3);
        Check.due("4 nor when one left", 15, ledge.insert(-20));
        ledge.remove(0);
        Check.due("4 full by the sixteenth", 0, ledge.insert(-30));
        Check.due("4 merged", 1, ledge.merges());
        Check.due("4 all is merged, marks too", 16, ledge.rowSize());
        Check.due("4 and begins anew", 1, ledge.insert(0));
        LearnedLedge dropped = with(2, 4, 0, 10);
        dropped.remove(10);
        dropped.merge();
        Check.due("4 a dropped key comes as a new one", 1, dropped.insert(10));
    }

    /** Promise 4: "Throws IllegalArgumentException if key is out of its range". */
    private static void insertOutOfRange() {
        Check.allowed("4 the least", 2, Ledges::mixed, x -> x.insert(LEAST));
        Check.allowed("4 the greatest", 2, Ledges::mixed, x -> x.insert(GREATEST));
        for (int key : NO_KEYS) {
            Check.refused("4 " + key, ARGUMENT, Ledges::mixed, x -> x.insert(key));
        }
    }

    /** Promise 4: "if the key is there, or row and buffer have 256 keys and the row does not have it". */
    private static void insertKeyThereOrFull() {
        Check.refused("4 first of the row", STATE, Ledges::mixed, x -> x.insert(0));
        Check.refused("4 last of the row", STATE, Ledges::mixed, x -> x.insert(20));
        Check.refused("4 of the buffer", STATE, Ledges::mixed, x -> x.insert(25));
        Check.allowed("4 beside it", 2, Ledges::mixed, x -> x.insert(24));
        Check.allowed("4 255 keys", 1, Ledges::oneShort, x -> x.insert(509));
        Check.refused("4 256 keys", STATE, Ledges::fullByRow, x -> x.insert(509));
        Check.refused("4 256 keys, with the buffer's", STATE, Ledges::fullByBuffer, x -> x.insert(509));
        Check.refused("4 256 keys, with marked ones", STATE, Ledges::fullByMarks, x -> x.insert(509));
        Check.refused("4 256 keys, and it is there", STATE, Ledges::fullByRow, x -> x.insert(0));
        Check.refused("4 256 keys, and the buffer has it", STATE, Ledges::fullByBuffer, x -> x.insert(1));
        Check.allowed("4 256 keys, and the row has it marked", 0, Ledges::fullByMarks, x -> x.insert(510));
    }

    /** Promise 5: "one of the buffer leaves it, one of the row is marked." */
    private static void removeFromBufferOrRow() {
        LearnedLedge ledge = with(2, 4, 0, 10);
        ledge.insert(-5);
        ledge.insert(5);
        ledge.insert(15);
        ledge.remove(5);
        Check.due("5 the middle one of the buffer", 2, ledge.buffered());
        Check.due("5 no mark by that", 0, ledge.marked());
        ledge.remove(15);
        ledge.remove(-5);
        Check.due("5 the last ones of the buffer", 0, ledge.buffered());
        ledge.remove(0);
        Check.due("5 one of the row", 1, ledge.marked());
        Check.due("5 stays in the row", 2, ledge.rowSize());
        Check.due("5 no key but one", 10, ledge.select(0));
        Check.due("5 no merge by that", 0, ledge.merges());
    }

    /** Promise 5: "Returns how many keys are there then." */
    private static void removeReturnsHowMany() {
        Check.allowed("5 of three", 2, Ledges::mixed, x -> x.remove(20));
        Check.allowed("5 of the buffer", 2, Ledges::mixed, x -> x.remove(25));
        Check.allowed("5 the only one of the row", 0, () -> with(2, 4, 7), x -> x.remove(7));
        Check.allowed("5 of a full index", 255, Ledges::fullByBuffer, x -> x.remove(1));
        Check.allowed("5 of one with marks", 253, Ledges::fullByMarks, x -> x.remove(0));
        LearnedLedge late = new LearnedLedge();
        late.insert(7);
        Check.due("5 the only one of the buffer", 0, late.remove(7));
    }

    /** Promise 5: "Throws NoSuchElementException if it is not there". */
    private static void removeNotThere() {
        Check.refused("5 empty", ELEMENT, LearnedLedge::new, x -> x.remove(0));
        for (int key : new int[] {-1, 1, 10, 19, 21, 24, 26}) {
            Check.refused("5 " + key, ELEMENT, Ledges::mixed, x -> x.remove(key));
        }
        for (int key : NO_KEYS) {
            Check.refused("5 " + key, ELEMENT, Ledges::mixed, x -> x.remove(key));
        }
        Check.refused("5 marked", ELEMENT, Ledges::fullByMarks, x -> x.remove(510));
        Check.refused("5 it left the buffer", ELEMENT, () -> {
            LearnedLedge ledge = Ledges.mixed();
            ledge.remove(25);
            return ledge;
        }, x -> x.remove(25));
        Check.refused("5 dropped", ELEMENT, () -> {
            LearnedLedge ledge = Ledges.mixed();
            ledge.merge();
            return ledge;
        }, x -> x.remove(10));
    }

    /** Promise 6: "Merges, whether the buffer has keys or not." */
    private static void mergeWithOrWithoutBuffer() {
        LearnedLedge ledge = lastMarked();
        Check.due("6 without a buffer", 1, ledge.merge());
        Check.due("6 the marked one is dropped", 1, ledge.rowSize());
        Check.due("6 counted", 1, ledge.merges());
        ledge.insert(4);
        Check.due("6 with a buffer", 1, ledge.merge());
        Check.due("6 its key came", 2, ledge.rowSize());
        Check.due("6 with nothing to do", 1, ledge.merge());
        Check.due("6 counted too", 3, ledge.merges());
        Check.allowed("6 empty", 0, LearnedLedge::new, LearnedLedge::merge);
        LearnedLedge full = Ledges.fullByBuffer();
        full.merge();
        Check.due("6 full", 256, full.rowSize());
        Check.due("6 full, the last one", 508, full.select(255));
    }

    /** Promise 7: "all of them come into the row, without marks". */
    private static void rebuildWithTheKeysThere() {
        LearnedLedge ledge = Ledges.mixed();
        Check.due("7 one piece", 1, ledge.rebuild(2, 4));
        Check.due("7 looks:", "keys 0 20 25 pieces 0:0:0/1"
                + " size 3 pieces 1 row 3 marked 0 buffered 0 merges 0 splits 0 joins 0", Check.looksLike(ledge));
        Check.allowed("7 no keys", 0, LearnedLedge::new, x -> x.rebuild(2, 4));
        LearnedLedge late = new LearnedLedge();
        late.insert(5);
        Check.due("7 the buffer's alone", 1, late.rebuild(2, 4));
        Check.due("7 is in the row", 1, late.rowSize());
        late.remove(5);
        Check.due("7 marked ones alone", 0, late.rebuild(2, 4));
        Check.due("7 no row", 0, late.rowSize());
        Check.due("7 a key begins it anew", 1, late.append(3));
        LearnedLedge full = Ledges.fullByBuffer();
        full.rebuild(20, 16);
        Check.due("7 full", 256, full.rowSize());
        LearnedLedge marks = Ledges.fullByMarks();
        marks.rebuild(0, 16);
        Check.due("7 full by marks", 254, marks.rowSize());
    }

    /** Promise 7: "are cut into pieces, by another bound". */
    private static void rebuildAnotherBound() {
        LearnedLedge ledge = with(20, 4, 0, 10, 11, 12, 13, 14);
        Check.due("7 at 20", 1, ledge.pieces());
        // At 0: 0 10 | 11 12 13 14. At 1, 10 allows 2/10, and 12 at 3 asks for 2/12, 13 at 4 for 3/13.
        Check.due("7 at 0", 2, ledge.rebuild(0, 4));
        Check.due("7 at 0, second one", 2, ledge.start(1));
        Check.due("7 at 1", 2, ledge.rebuild(1, 4));
        Check.due("7 at 1, second one", 4, ledge.start(1));
        Check.due("7 at 20 again", 1, ledge.rebuild(20, 4));
        ledge.rebuild(0, 4);
        Check.due("7 by it, append too", 3, ledge.append(100));
        ledge.insert(5);
        // 0 5 10 | 11 12 13 14 | 100.
        Check.due("7 by it, merge too", 3, ledge.merge());
        ledge.insert(6);
        Check.due("7 by it, a split too", 4, ledge.merge());
    }

    /** Promise 7: "the buffer has another room." */
    private static void rebuildAnotherRoom() {
        LearnedLedge ledge = new LearnedLedge();
        ledge.insert(1);
        ledge.insert(2);
        ledge.insert(3);
        ledge.rebuild(2, 3);
        Check.due("7 the buffer begins empty", 1, ledge.insert(4));
        Check.due("7 second of three", 2, ledge.insert(5));
        Check.due("7 third of three", 0, ledge.insert(6));
        ledge.insert(7);
        ledge.insert(8);
        ledge.rebuild(2, 1);
        Check.due("7 less room than the buffer had", 5 + 3, ledge.rowSize());
        Check.due("7 one of one", 0, ledge.insert(9));
        Check.due("7 merged twice", 2, ledge.merges());
    }

    /** Promise 7: "That counts neither as a merge nor as splits or joins." */
    private static void rebuildCountsNothing() {
        LearnedLedge ledge = with(2, 4, 0, 10, 11, 12, 13);
        ledge.rebuild(0, 4);
        Check.due("7 cut in two", 2, ledge.pieces());
        Check.due("7 no merge", 0, ledge.merges());
        Check.due("7 no split", 0, ledge.splits());
        ledge.rebuild(20, 4);
        Check.due("7 one again", 1, ledge.pieces());
        Check.due("7 no join", 0, ledge.joins());
        LearnedLedge worked = with(0, 16, 0, 1, 10, 11, 20, 30, 31);
        worked.remove(1);
        worked.insert(21);
        worked.merge();
        String counts = worked.merges() + " " + worked.splits() + " " + worked.joins();
        // 0 | 10 11 | 20 21 | 30 31: one split by 21, and 30 is joined to 31.
        Check.due("7 some work", "1 1 1", counts);
        worked.rebuild(1, 2);
        Check.due("7 all counts stay", counts, worked.merges() + " " + worked.splits() + " " + worked.joins());
    }

    /** Promise 7: "bound: 0 to 20", "room: .. 1 to 16", "if bound or room is out of its range". */
    private static void rebuildOutOfRange() {
        Check.allowed("7 both least", 2, Ledges::mixed, x -> x.rebuild(0, 1));
        Check.allowed("7 both greatest", 1, Ledges::mixed, x -> x.rebuild(20, 16));
        for (int bound : new int[] {-1, 21, Integer.MIN_VALUE, Integer.MAX_VALUE}) {
            Check.refused("7 bound " + bound, ARGUMENT, Ledges::mixed, x -> x.rebuild(bound, 1));
            Check.refused("7 bound " + bound + " and room", ARGUMENT, Ledges::mixed, x -> x.rebuild(bound, 17));
        }
        for (int room : new int[] {0, 17, -1, Integer.MIN_VALUE, Integer.MAX_VALUE}) {
            Check.refused("7 room " + room, ARGUMENT, Ledges::mixed, x -> x.rebuild(0, room));
        }
        Check.refused("7 full", ARGUMENT, Ledges::fullByMarks, x -> x.rebuild(21, 16));
    }

    /** Promise 8: "Returns how many keys are there." */
    private static void sizes() {
        Check.allowed("8 none", 0, LearnedLedge::new, LearnedLedge::size);
        Check.allowed("8 without the marked one", 3, Ledges::mixed, LearnedLedge::size);
        Check.allowed("8 as many as can be", 256, Ledges::fullByRow, LearnedLedge::size);
        Check.allowed("8 with the buffer's", 256, Ledges::fullByBuffer, LearnedLedge::size);
        Check.allowed("8 full, two marked", 254, Ledges::fullByMarks, LearnedLedge::size);
    }

    /** Promise 9: "key: any int". */
    private static void containsAnyInt() {
        LearnedLedge ends = with(2, 4, LEAST, GREATEST);
        Check.due("9 least key", 1, one(ends.contains(LEAST)));
        Check.due("9 greatest key", 1, one(ends.contains(GREATEST)));
        for (int key : NO_KEYS) {
            Check.due("9 " + key, 0, one(ends.contains(key)));
            Check.due("9 empty, " + key, 0, one(new LearnedLedge().contains(key)));
        }
        LearnedLedge ledge = Ledges.mixed();
        int[] keys = {-1, 0, 1, 10, 19, 20, 21, 24, 25, 26};
        int[] due = {0, 1, 0, 0, 0, 1, 0, 0, 1, 0};
        for (int i = 0; i < keys.length; i++) {
            Check.due("9 " + keys[i], due[i], one(ledge.contains(keys[i])));
        }
        ledge.insert(10);
        Check.due("9 came back", 1, one(ledge.contains(10)));
    }

    /** Promise 10: "how many keys are there that are less than some number", "any int". */
    private static void rankAnyInt() {
        LearnedLedge ledge = Ledges.mixed();
        int[] keys = {Integer.MIN_VALUE, 0, 1, 10, 11, 20, 21, 25, 26, Integer.MAX_VALUE};
        int[] due = {0, 0, 1, 1, 1, 1, 2, 2, 3, 3};
        for (int i = 0; i < keys.length; i++) {
            Check.due("10 " + keys[i], due[i], ledge.rank(keys[i]));
        }
        Check.due("10 empty", 0, new LearnedLedge().rank(Integer.MAX_VALUE));
        Check.due("10 full", 256, Ledges.fullByRow().rank(Integer.MAX_VALUE));
        Check.due("10 full, up to the last", 255, Ledges.fullByBuffer().rank(508));
        LearnedLedge ends = with(2, 4, LEAST, GREATEST);
        Check.due("10 the least key", 0, ends.rank(LEAST));
        Check.due("10 one more", 1, ends.rank(LEAST + 1));
        Check.due("10 the greatest key", 1, ends.rank(GREATEST));
        Check.due("10 one more", 2, ends.rank(GREATEST + 1));
    }

    /** Promise 11: "place: 0 for the least one". */
    private static void selectPlaces() {
        LearnedLedge ledge = Ledges.mixed();
        ledge.insert(-3);
        int[] due = {-3, 0, 20, 25};
        for (int place = 0; place < due.length; place++) {
            Check.due("11 " + place, due[place], ledge.select(place));
        }
        Check.due("11 full, first", 0, Ledges.fullByBuffer().select(0));
        Check.due("11 full, the buffer's", 1, Ledges.fullByBuffer().select(1));
        Check.due("11 full, last", 508, Ledges.fullByBuffer().select(255));
    }

    /** Promise 11: "Throws IndexOutOfBoundsException if there are not so many". */
    private static void selectNotSoMany() {
        Check.refused("11 empty", INDEX, LearnedLedge::new, x -> x.select(0));
        for (int place : new int[] {-1, 3, 4, Integer.MIN_VALUE, Integer.MAX_VALUE}) {
            Check.refused("11 " + place, INDEX, Ledges::mixed, x -> x.select(place));
        }
        Check.refused("11 full", INDEX, Ledges::fullByRow, x -> x.select(256));
        Check.refused("11 marked ones have none", INDEX, Ledges::fullByMarks, x -> x.select(254));
        Check.allowed("11 the last that has one", 508, Ledges::fullByMarks, x -> x.select(253));
        Check.refused("11 all marked", INDEX, () -> {
            LearnedLedge ledge = with(2, 4, 5);
            ledge.remove(5);
            return ledge;
        }, x -> x.select(0));
    }

    /** Promise 12: "the least key that is there and not less than some number", "any int". */
    private static void ceilingAnyInt() {
        LearnedLedge ledge = Ledges.mixed();
        int[] keys = {Integer.MIN_VALUE, -1, 0, 1, 10, 19, 20, 21, 24, 25};
        int[] due = {0, 0, 0, 20, 20, 20, 20, 25, 25, 25};
        for (int i = 0; i < keys.length; i++) {
            Check.due("12 " + keys[i], due[i], ledge.ceiling(keys[i]));
        }
        Check.due("12 the greatest key", GREATEST, with(2, 4, GREATEST).ceiling(GREATEST));
    }

    /** Promise 12: "Throws NoSuchElementException if there is none". */
    private static void ceilingNone() {
        Check.refused("12 empty", ELEMENT, LearnedLedge::new, x -> x.ceiling(Integer.MIN_VALUE));
        Check.refused("12 one above the last", ELEMENT, Ledges::mixed, x -> x.ceiling(26));
        Check.refused("12 far above", ELEMENT, Ledges::mixed, x -> x.ceiling(Integer.MAX_VALUE));
        Check.refused("12 a marked one alone", ELEMENT, CallsEdgesTest::lastMarked, x -> x.ceiling(1));
        Check.refused("12 the marked one itself", ELEMENT, CallsEdgesTest::lastMarked, x -> x.ceiling(10));
        Check.allowed("12 the last one ahead of it", 0, CallsEdgesTest::lastMarked, x -> x.ceiling(0));
        Check.refused("12 full", ELEMENT, Ledges::fullByRow, x -> x.ceiling(511));
    }

    /** Promise 13: "from one number to another one, both included", "any int". */
    private static void countBothIncluded() {
        LearnedLedge ledge = Ledges.mixed();
        Check.due("13 all", 3, ledge.count(Integer.MIN_VALUE, Integer.MAX_VALUE));
        Check.due("13 ends of the row", 2, ledge.count(0, 20));
        Check.due("13 without the ends", 0, ledge.count(1, 19));
        Check.due("13 without the low end", 1, ledge.count(1, 20));
        Check.due("13 without the high end", 1, ledge.count(0, 19));
        Check.due("13 to the buffer's", 3, ledge.count(0, 25));
        Check.due("13 to one below it", 2, ledge.count(0, 24));
        Check.due("13 one number, there", 1, ledge.count(20, 20));
        Check.due("13 one number, the buffer's", 1, ledge.count(25, 25));
        Check.due("13 one number, marked", 0, ledge.count(10, 10));
        Check.due("13 least int", 0, ledge.count(Integer.MIN_VALUE, Integer.MIN_VALUE));
        Check.due("13 greatest int", 0, ledge.count(Integer.MAX_VALUE, Integer.MAX_VALUE));
        Check.due("13 up to the greatest int", 2, ledge.count(20, Integer.MAX_VALUE));
        Check.due("13 from the least int", 1, ledge.count(Integer.MIN_VALUE, 0));
        Check.due("13 full", 256, Ledges.fullByRow().count(0, 510));
        Check.due("13 empty", 0, new LearnedLedge().count(Integer.MIN_VALUE, Integer.MAX_VALUE));
    }

    /** Promise 13: "0 if low is greater than high." */
    private static void countLowAboveHigh() {
        LearnedLedge ledge = with(2, 4, 4, 5, 6);
        Check.due("13 by one, high is there", 0, ledge.count(6, 5));
        Check.due("13 by two", 0, ledge.count(6, 4));
        Check.due("13 by one above all", 0, ledge.count(7, 6));
        Check.due("13 far", 0, ledge.count(Integer.MAX_VALUE, Integer.MIN_VALUE));
        Check.due("13 all between", 0, ledge.count(GREATEST, LEAST));
    }

    /** Promise 14: "marked or not, that is not less than some number"; "the number of keys of the row, if all are less." */
    private static void placeAnyInt() {
        LearnedLedge ledge = Ledges.mixed();
        int[] keys = {Integer.MIN_VALUE, -1, 0, 1, 10, 11, 20, 21, 25, 26, Integer.MAX_VALUE};
        int[] due = {0, 0, 0, 1, 1, 2, 2, 3, 3, 3, 3};
        for (int i = 0; i < keys.length; i++) {
            Check.due("14 " + keys[i], due[i], ledge.place(keys[i]));
        }
        for (int key : new int[] {Integer.MIN_VALUE, 0, Integer.MAX_VALUE}) {
            Check.due("14 empty", 0, new LearnedLedge().place(key));
        }
        Check.due("14 full", 256, Ledges.fullByMarks().place(511));
        Check.due("14 full, the marked last one", 255, Ledges.fullByMarks().place(510));
    }

    /** Promise 15: "NONE if it has no piece." */
    private static void guessNone() {
        Check.due("15 the constant", -1, LearnedLedge.NONE);
        Check.allowed("15 empty", -1, LearnedLedge::new, x -> x.guess(0));
        Check.allowed("15 below all", -1, Ledges::mixed, x -> x.guess(-1));
        Check.allowed("15 the least key", -1, Ledges::mixed, x -> x.guess(LEAST));
        Check.allowed("15 the first key", 0, Ledges::mixed, x -> x.guess(0));
        Check.allowed("15 a number between", 0, Ledges::mixed, x -> x.guess(15));
        LearnedLedge gone = lastMarked();
        gone.remove(0);
        Check.due("15 marked ones alone", 0, gone.guess(5));
        gone.merge();
        Check.due("15 all dropped", -1, gone.guess(5));
        LearnedLedge steep = with(0, 4, LEAST, LEAST + 1);
        Check.due("15 the greatest guess", 2000000, steep.guess(GREATEST));
    }

    /** Promise 15: "Throws IllegalArgumentException if key is out of its range". */
    private static void guessOutOfRange() {
        for (int key : NO_KEYS) {
            Check.refused("15 " + key, ARGUMENT, Ledges::mixed, x -> x.guess(key));
            Check.refused("15 empty, " + key, ARGUMENT, LearnedLedge::new, x -> x.guess(key));
        }
        Check.allowed("15 the greatest key", 0, Ledges::mixed, x -> x.guess(GREATEST));
    }

    /** At bound 2: 0 to 9 by 7/9 at the places 0 to 9, and 1000 to 1900 by 7/900 at 10 to 19. */
    private static LearnedLedge looked() {
        LearnedLedge ledge = with(2, 4);
        ledge.appendMany(0, 1, 10);
        ledge.appendMany(1000, 100, 10);
        return ledge;
    }

    /** Promise 16: "low is the greater one of p and g - b, but not more than r". */
    private static void looksLow() {
        Check.due("16 two pieces", 2, looked().pieces());
        Check.due("16 second one", 10, looked().start(1));
        // The guess is 10: 10 to 12, with looks at 11 and 10; from 8 on there would be one more.
        Check.allowed("16 p", 2, CallsEdgesTest::looked, x -> x.looks(1050));
        // The guess is 16: 14 to 18, with looks at 16, 18, 17; from 10 on there would be one more.
        Check.allowed("16 g - b, guess", 16, CallsEdgesTest::looked, x -> x.guess(1800));
        Check.allowed("16 g - b", 3, CallsEdgesTest::looked, x -> x.looks(1800));
        // The guesses are 21, 22 and far more: 19, then none.
        Check.allowed("16 just less than r", 1, CallsEdgesTest::looked, x -> x.looks(2542));
        Check.allowed("16 just r", 0, CallsEdgesTest::looked, x -> x.looks(2543));
        Check.allowed("16 more than r", 0, CallsEdgesTest::looked, x -> x.looks(GREATEST));
        // In the first piece, r is 10: the guess for 15 is 11, for 16 it is 12.
        Check.allowed("16 just less than r, first piece", 1, CallsEdgesTest::looked, x -> x.looks(15));
        Check.allowed("16 just r, first piece", 0, CallsEdgesTest::looked, x -> x.looks(16));
        Check.allowed("16 more than r, first piece", 0, CallsEdgesTest::looked, x -> x.looks(999));
    }

    /** Promise 16: "high is the lesser one of r and g + b + 1." */
    private static void looksHigh() {
        // The guess is 8: 6 to 9, with looks at 8 and 9; up to 10 there would be one more.
        Check.allowed("16 r", 2, CallsEdgesTest::looked, x -> x.looks(11));
        // The guess is 0: 0 to 2, with looks at 1 and 0; up to r there would be more.
        Check.allowed("16 g + b + 1", 2, CallsEdgesTest::looked, x -> x.looks(0));
        Check.allowed("16 one key", 1, () -> with(2, 4, 0), x -> x.looks(0));
        Check.allowed("16 bound 0", 1, () -> with(0, 4, 0, 10, 20, 30), x -> x.looks(10));
        // At bound 20 the slope is 1/2. The guess for 0 is 0: 0 to 20, with looks at 10, 5, 2, 1, 0.
        LearnedLedge wide = with(20, 4);
        wide.appendMany(0, 1, 41);
        Check.due("16 bound 20, first key", 5, wide.looks(0));
        // The guess for 40 is 20: 0 to 40, with looks at 20, 31, 36, 39, 40.
        Check.due("16 bound 20, last key", 5, wide.looks(40));
    }

    /** Promise 16: "if it is less than the key, low becomes 1 more than that place, otherwise high becomes that place." */
    private static void looksHalving() {
        // Slope 0 over the places 0 to 2: looks at 1, then at 0 or at 2.
        LearnedLedge ledge = with(2, 4, 0, 10, 20);
        Check.due("16 first", 2, ledge.looks(0));
        Check.due("16 the key in the middle", 2, ledge.looks(10));
        Check.due("16 last", 2, ledge.looks(20));
        Check.due("16 behind all", 2, ledge.looks(21));
        LearnedLedge two = with(2, 4, 0, 10);
        // Of two, rounded down, the look is at 1 first: 0 and 5 need another one, 11 does not.
        Check.due("16 of two, first", 2, two.looks(0));
        Check.due("16 of two, between", 2, two.looks(5));
        Check.due("16 of two, last", 2, two.looks(10));
        Check.due("16 of two, behind", 1, two.looks(11));
        two.remove(0);
        Check.due("16 marked ones are looked at", 2, two.looks(5));
    }

    /** Promise 16: "0 if the key has no piece." */
    private static void looksNoPiece() {
        Check.allowed("16 empty", 0, LearnedLedge::new, x -> x.looks(0));
        Check.allowed("16 below all", 0, Ledges::mixed, x -> x.looks(-1));
        Check.allowed("16 the least key", 0, Ledges::mixed, x -> x.looks(LEAST));
        Check.allowed("16 the first key", 2, Ledges::mixed, x -> x.looks(0));
        LearnedLedge late = new LearnedLedge();
        late.insert(0);
        Check.due("16 a buffer alone", 0, late.looks(0));
    }

    /** Promise 16: "Throws IllegalArgumentException if key is out of its range". */
    private static void looksOutOfRange() {
        for (int key : NO_KEYS) {
            Check.refused("16 " + key, ARGUMENT, Ledges::mixed, x -> x.looks(key));
            Check.refused("16 empty, " + key, ARGUMENT, LearnedLedge::new, x -> x.looks(key));
        }
        Check.allowed("16 the greatest key", 2, Ledges::mixed, x -> x.looks(GREATEST));
    }

    /** Promise 17: "0 if the row has no keys." */
    private static void worstErrorWithoutKeys() {
        Check.allowed("17 empty", 0, LearnedLedge::new, LearnedLedge::worstError);
        LearnedLedge late = new LearnedLedge();
        late.insert(1);
        late.insert(2);
        Check.due("17 a buffer alone", 0, late.worstError());
        LearnedLedge dropped = with(2, 4, 0, 1, 2);
        Check.due("17 some error", 2, dropped.worstError());
        for (int key = 0; key < 3; key++) {
            dropped.remove(key);
        }
        Check.due("17 marked ones have it too", 2, dropped.worstError());
        dropped.merge();
        Check.due("17 no keys any more", 0, dropped.worstError());
    }

    /** Promise 17: "the greatest difference of the place of a key of the row and the guess for it, without sign". */
    private static void worstErrorOfTheRow() {
        Check.allowed("17 one key", 0, () -> with(20, 4, 5), LearnedLedge::worstError);
        Check.allowed("17 at 0", 0, () -> with(0, 4, 0, 10, 11, 12), LearnedLedge::worstError);
        Check.allowed("17 two keys", 1, () -> with(20, 4, 0, 1), LearnedLedge::worstError);
        Check.allowed("17 full, at 2", 2, Ledges::fullByRow, LearnedLedge::worstError);
        Check.allowed("17 the greatest bound", 20, () -> {
            LearnedLedge ledge = with(20, 4);
            ledge.appendMany(0, 1, 100);
            return ledge;
        }, LearnedLedge::worstError);
        Check.allowed("17 the last piece alone", 2, () -> with(2, 4, 0, 1, 2, 3, 1000, 1001, 1002),
                LearnedLedge::worstError);
    }

    /** Promise 18: "Returns the number of pieces." */
    private static void pieceCounts() {
        Check.allowed("18 none", 0, LearnedLedge::new, LearnedLedge::pieces);
        Check.allowed("18 one key", 1, () -> with(0, 4, 0), LearnedLedge::pieces);
        Check.allowed("18 one more than a line", 2, () -> with(0, 4, 0, 10, 21), LearnedLedge::pieces);
        LearnedLedge most = with(0, 16);
        int key = 0;
        for (int pair = 0; pair < 128; pair++) {
            // At bound 0 each pair is a piece of its own: it is wider than the one ahead.
            key += 1;
            most.append(key);
            key += 2 + pair;
            most.append(key);
        }
        Check.due("18 pairs alone", 128, most.pieces());
        Check.due("18 the last one", 254, most.start(127));
        Check.due("18 its slope", 129, most.run(127));
        Check.due("18 as many slopes", 128, most.slopes());
        Check.due("18 merged, the same", 128, most.merge());
    }

    /** Promises 19 to 22: "Throws IndexOutOfBoundsException if there is no such piece". */
    private static void pieceNumbers() {
        Check.Maker two = () -> with(0, 4, 0, 10, 21);
        Check.allowed("19 first", 0, two, x -> x.start(0));
        Check.allowed("19 last", 2, two, x -> x.start(1));
        Check.allowed("20 first", 0, two, x -> x.firstKey(0));
        Check.allowed("20 last", 21, two, x -> x.firstKey(1));
        Check.allowed("21 first", 1, two, x -> x.rise(0));
        Check.allowed("21 last", 0, two, x -> x.rise(1));
        Check.allowed("22 first", 10, two, x -> x.run(0));
        Check.allowed("22 last", 1, two, x -> x.run(1));
        for (int piece : new int[] {-1, 2, Integer.MIN_VALUE, Integer.MAX_VALUE}) {
            Check.refused("19 " + piece, INDEX, two, x -> x.start(piece));
            Check.refused("20 " + piece, INDEX, two, x -> x.firstKey(piece));
            Check.refused("21 " + piece, INDEX, two, x -> x.rise(piece));
            Check.refused("22 " + piece, INDEX, two, x -> x.run(piece));
        }
        for (int piece : new int[] {-1, 0}) {
            Check.refused("19 none", INDEX, LearnedLedge::new, x -> x.start(piece));
            Check.refused("20 none", INDEX, LearnedLedge::new, x -> x.firstKey(piece));
            Check.refused("21 none", INDEX, LearnedLedge::new, x -> x.rise(piece));
            Check.refused("22 none", INDEX, LearnedLedge::new, x -> x.run(piece));
        }
        // Fewer pieces than there were: the last one's number is no piece any more.
        LearnedLedge fewer = with(0, 4, 0, 10, 21);
        fewer.remove(21);
        Check.due("20 marked first key", 21, fewer.firstKey(1));
        fewer.merge();
        Check.due("19 vanished", INDEX.getName(), Check.answerOf(() -> fewer.start(1)));
        Check.due("20 vanished", INDEX.getName(), Check.answerOf(() -> fewer.firstKey(1)));
        Check.due("21 vanished", INDEX.getName(), Check.answerOf(() -> fewer.rise(1)));
        Check.due("22 vanished", INDEX.getName(), Check.answerOf(() -> fewer.run(1)));
    }

    /** Promises 21 and 22: "0 if the slope is 0" and "1 if the slope is 0." */
    private static void slopeZero() {
        Check.allowed("21 one key", 0, () -> with(0, 4, 5), x -> x.rise(0));
        Check.allowed("22 one key", 1, () -> with(0, 4, 5), x -> x.run(0));
        Check.allowed("21 flat", 0, () -> with(2, 4, 0, 10, 20), x -> x.rise(0));
        Check.allowed("22 flat", 1, () -> with(2, 4, 0, 10, 20), x -> x.run(0));
        Check.allowed("21 just not flat", 1, () -> with(2, 4, 0, 10, 20, 30), x -> x.rise(0));
        Check.allowed("22 just not flat", 30, () -> with(2, 4, 0, 10, 20, 30), x -> x.run(0));
        // One key is left where a piece with a slope was: by rebuild, by merge, and by append after a merge.
        LearnedLedge rebuilt = with(0, 4, 0, 10, 11, 20);
        rebuilt.remove(20);
        rebuilt.rebuild(0, 4);
        Check.due("21 one key, rebuilt", 0, rebuilt.rise(1));
        Check.due("22 one key, rebuilt", 1, rebuilt.run(1));
        LearnedLedge merged = with(0, 4, 0, 10, 11, 20);
        merged.remove(20);
        merged.merge();
        Check.due("21 one key, merged", 0, merged.rise(1));
        Check.due("22 one key, merged", 1, merged.run(1));
        LearnedLedge appended = with(0, 4, 0, 10, 11, 20);
        appended.remove(11);
        appended.remove(20);
        appended.merge();
        appended.append(21);
        Check.due("21 one key, appended", 0, appended.rise(1));
        Check.due("22 one key, appended", 1, appended.run(1));
    }

    /** Promises 21 and 22: "in lowest terms", "above 0". */
    private static void lowestTerms() {
        // At bound 1, 4 at the place 3 asks for 2/4, and 5 there for 2/5.
        Check.allowed("21 whole", 1, () -> with(0, 4, 0, 1, 2, 3), x -> x.rise(0));
        Check.allowed("22 whole", 1, () -> with(0, 4, 0, 1, 2, 3), x -> x.run(0));
        Check.allowed("21 halved", 1, () -> with(1, 4, 0, 1, 3, 4), x -> x.rise(0));
        Check.allowed("22 halved", 2, () -> with(1, 4, 0, 1, 3, 4), x -> x.run(0));
        Check.allowed("21 nothing in common", 2, () -> with(1, 4, 0, 1, 3, 5), x -> x.rise(0));
        Check.allowed("22 nothing in common", 5, () -> with(1, 4, 0, 1, 3, 5), x -> x.run(0));
        LearnedLedge wide = with(0, 4, LEAST, GREATEST);
        Check.due("21 the least slope above 0", 1, wide.rise(0));
        Check.due("22 the widest run", 2000000, wide.run(0));
    }

    /** Promise 23: "Returns how many unlike slopes the pieces have." */
    private static void slopesUnlike() {
        Check.allowed("23 none", 0, LearnedLedge::new, LearnedLedge::slopes);
        Check.allowed("23 one", 1, () -> with(0, 4, 0), LearnedLedge::slopes);
        Check.allowed("23 two alike", 1, () -> with(0, 4, 0, 10, 11, 21), LearnedLedge::slopes);
        Check.allowed("23 two unlike", 2, () -> with(0, 4, 0, 10, 11, 22), LearnedLedge::slopes);
        // 2 of 10 and 1 of 5 are alike.
        LearnedLedge terms = with(1, 4, 0, 8, 9, 10, 1000, 1004, 1005);
        Check.due("23 two pieces", 2, terms.pieces());
        Check.due("23 alike in lowest terms", 1, terms.slopes());
        Check.due("24 both have it", 0, terms.commonest());
    }

    /** Promise 24: "of several such slopes the one whose first piece comes first". */
    private static void commonestOfSeveral() {
        // The runs are 10 5 5, then 10, then 5.
        LearnedLedge ledge = with(0, 4, 0, 10, 11, 16, 17, 22);
        Check.due("24 pieces", 3, ledge.pieces());
        Check.due("24 most have it", 1, ledge.commonest());
        ledge.append(23);
        ledge.append(33);
        Check.due("24 two and two, the first one's", 0, ledge.commonest());
        ledge.append(34);
        ledge.append(39);
        Check.due("24 two and three", 1, ledge.commonest());
        Check.allowed("24 each once", 0, () -> with(0, 4, 0, 10, 11, 22, 23), LearnedLedge::commonest);
    }

    /** Promise 24: "NONE without pieces." */
    private static void commonestNone() {
        Check.allowed("24 none", -1, LearnedLedge::new, LearnedLedge::commonest);
        Check.allowed("24 one", 0, () -> with(0, 4, 0), LearnedLedge::commonest);
        LearnedLedge late = new LearnedLedge();
        late.insert(4);
        Check.due("24 a buffer alone", -1, late.commonest());
        late.merge();
        Check.due("24 merged", 0, late.commonest());
        late.remove(4);
        Check.due("24 marked", 0, late.commonest());
        late.merge();
        Check.due("24 dropped", -1, late.commonest());
    }

    /** Promises 25 and 26: "how many keys the buffer has" and "how many keys of the row are marked." */
    private static void bufferedAndMarked() {
        LearnedLedge ledge = with(2, 2, 0, 10);
        Check.due("25 none", 0, ledge.buffered());
        Check.due("26 none", 0, ledge.marked());
        ledge.insert(5);
        Check.due("25 one less than the room", 1, ledge.buffered());
        ledge.remove(0);
        ledge.remove(10);
        Check.due("26 all of the row", 2, ledge.marked());
        ledge.remove(5);
        Check.due("25 it left", 0, ledge.buffered());
        Check.due("26 no mark by that", 2, ledge.marked());
        ledge.insert(10);
        Check.due("26 one came back", 1, ledge.marked());
        Check.due("25 not by the buffer", 0, ledge.buffered());
        ledge.merge();
        Check.due("26 dropped", 0, ledge.marked());
        LearnedLedge full = Ledges.fullByRow();
        for (int key = 0; key < 512; key += 2) {
            full.remove(key);
        }
        Check.due("26 as many as can be", 256, full.marked());
        full.rebuild(2, 2);
        Check.due("26 none by rebuild", 0, full.marked());
    }

    /** Promise 27: "how many keys the row has, marked ones too." */
    private static void rowSizeWithMarked() {
        Check.allowed("27 none", 0, LearnedLedge::new, LearnedLedge::rowSize);
        Check.allowed("27 with the marked, without the buffer", 3, Ledges::mixed, LearnedLedge::rowSize);
        Check.allowed("27 as many as can be", 256, Ledges::fullByRow, LearnedLedge::rowSize);
        Check.allowed("27 marked or not", 256, Ledges::fullByMarks, LearnedLedge::rowSize);
        Check.allowed("27 one in the buffer", 255, Ledges::fullByBuffer, LearnedLedge::rowSize);
    }

    /** Promises 28 to 30: "how often all was merged", "splits" and "joins there were in all merges." */
    private static void countsOfWork() {
        LearnedLedge ledge = with(0, 2, 0, 10, 20, 30);
        ledge.insert(11);
        ledge.append(40);
        ledge.append(47);
        Check.due("28 none by append", 0, ledge.merges());
        Check.due("29 a piece begun by append is no split", 0, ledge.splits());
        ledge.insert(12);
        // 0 10 | 11 12 | 20 30 40, and 47.
        Check.due("28 by a full buffer", 1, ledge.merges());
        Check.due("29 in it", 2, ledge.splits());
        Check.due("30 none in it", 0, ledge.joins());
        ledge.remove(11);
        ledge.remove(12);
        ledge.merge();
        // The middle one vanished, and the others are one again.
        Check.due("28 by merge", 2, ledge.merges());
        Check.due("29 none more", 2, ledge.splits());
        Check.due("30 one", 1, ledge.joins());
        ledge.insert(11);
        ledge.merge();
        Check.due("28 a third one", 3, ledge.merges());
        Check.due("29 two more", 4, ledge.splits());
        ledge.remove(11);
        ledge.merge();
        // 0 10 | 20 | 30 40 | 47: the first three are one again.
        Check.due("30 two more", 3, ledge.joins());
    }

    /** "An object is used for at most 512 calls": the last of them is answered like the others. */
    private static void callsToTheLast() {
        LearnedLedge ledge = new LearnedLedge();
        for (int pair = 0; pair < 255; pair++) {
            int late = 2 * (pair % 4) + 1;
            Check.due("the call " + (2 * pair + 1), 1, ledge.insert(late));
            Check.due("the call " + (2 * pair + 2), 0, ledge.remove(late));
        }
        Check.due("the call 511", 1, ledge.append(0));
        Check.due("the last call", 1, ledge.size());
    }
}
