import java.util.NoSuchElementException;

/** The boundary cases that the document's terms name: a test for each sentence, with it above. */
public final class TermsEdgesTest {
    private static final Class<?> ARGUMENT = IllegalArgumentException.class;
    private static final Class<?> STATE = IllegalStateException.class;
    private static final Class<?> ELEMENT = NoSuchElementException.class;
    private static final int LEAST = -1000000;
    private static final int GREATEST = 1000000;

    private TermsEdgesTest() {
    }

    public static void main(String[] args) {
        firstExceptionListed();
        keysInRange();
        eachKeyOnce();
        placesFromZero();
        markedKeyKeepsItsPlace();
        bufferIsNotTheRow();
        mostKeys();
        mostKeysWithMarks();
        mostKeysByMerging();
        boundAtFirst();
        boundsFromTo();
        leastSlope();
        slopeAtTheUpperEdge();
        slopeAtTheLowerEdge();
        guessRoundedDown();
        pieceOfAKey();
        noPiece();
        cutting();
        lateKeysToTheirPiece();
        lateKeysToTheFirstPiece();
        lateKeysWithoutPieces();
        piecesAsTheyAreAhead();
        piecesVanish();
        piecesAreKept();
        eachPieceMoreIsASplit();
        joinAtTheEdge();
        joinedIsLookedAtAgain();
        otherwiseTheNextPiece();
        noJoinWithoutCause();
        bufferIsEmptyThen();
        Check.end("TermsEdgesTest");
    }

    private static LearnedLedge with(int bound, int room, int... keys) {
        return Ledges.with(bound, room, keys);
    }

    private static void looksLike(String what, String want, LearnedLedge ledge) {
        Check.due(what + " looks:", want, Check.looksLike(ledge));
    }

    /** "If several exceptions apply to a call, the one that its comment lists first is thrown." */
    private static void firstExceptionListed() {
        Check.refused("append, full and above", ARGUMENT, Ledges::fullByRow, x -> x.append(GREATEST + 1));
        Check.refused("append, not behind and below", ARGUMENT, Ledges::mixed, x -> x.append(LEAST - 1));
        Check.refused("appendMany, step and not behind", ARGUMENT, Ledges::mixed, x -> x.appendMany(0, 0, 1));
        Check.refused("appendMany, many and not behind", ARGUMENT, Ledges::mixed, x -> x.appendMany(0, 1, 101));
        Check.refused("appendMany, full and many", ARGUMENT, Ledges::fullByRow, x -> x.appendMany(600, 1, 0));
        Check.refused("appendMany, full and above", ARGUMENT, Ledges::fullByRow, x -> x.appendMany(GREATEST, 1, 2));
        Check.refused("appendMany, first below and not behind", ARGUMENT, Ledges::mixed,
                x -> x.appendMany(LEAST - 1, 10, 3));
        Check.refused("insert, full and above", ARGUMENT, Ledges::fullByRow, x -> x.insert(GREATEST + 1));
        Check.refused("insert, full and below", ARGUMENT, Ledges::fullByBuffer, x -> x.insert(LEAST - 1));
    }

    /** "Keys are numbers from -1000000 to 1000000". */
    private static void keysInRange() {
        Check.allowed("append the least", 1, LearnedLedge::new, x -> x.append(LEAST));
        Check.allowed("append the greatest", 1, LearnedLedge::new, x -> x.append(GREATEST));
        Check.allowed("insert the least", 1, LearnedLedge::new, x -> x.insert(LEAST));
        Check.allowed("insert the greatest", 1, LearnedLedge::new, x -> x.insert(GREATEST));
        for (int key : new int[] {LEAST - 1, GREATEST + 1, Integer.MIN_VALUE, Integer.MAX_VALUE}) {
            Check.refused("append " + key, ARGUMENT, LearnedLedge::new, x -> x.append(key));
            Check.refused("appendMany " + key, ARGUMENT, LearnedLedge::new, x -> x.appendMany(key, 1, 1));
            Check.refused("insert " + key, ARGUMENT, LearnedLedge::new, x -> x.insert(key));
        }
        LearnedLedge ends = with(0, 4, LEAST);
        Check.due("both ends fit one piece", 1, ends.append(GREATEST));
        ends.insert(LEAST + 1);
        ends.insert(GREATEST - 1);
        ends.insert(0);
        Check.due("the buffer is not full yet", 3, ends.buffered());
        ends.merge();
        Check.due("least of all", LEAST, ends.select(0));
        Check.due("greatest of all", GREATEST, ends.select(4));
    }

    /** "each is there at most once." */
    private static void eachKeyOnce() {
        Check.refused("insert one of the row", STATE, Ledges::mixed, x -> x.insert(20));
        Check.refused("insert one of the buffer", STATE, Ledges::mixed, x -> x.insert(25));
        Check.refused("append the last of the row", STATE, () -> with(2, 4, 0, 10), x -> x.append(10));
        Check.refused("append one of the buffer", STATE, Ledges::mixed, x -> x.append(25));
        LearnedLedge back = Ledges.mixed();
        back.insert(10);
        Check.refused("insert one that came back", STATE, () -> {
            LearnedLedge made = Ledges.mixed();
            made.insert(10);
            return made;
        }, x -> x.insert(10));
        back.merge();
        looksLike("a key that came back", "keys 0 10 20 25 pieces 0:0:1/25"
                + " size 4 pieces 1 row 4 marked 0 buffered 0 merges 1 splits 0 joins 0", back);
    }

    /** "The row has keys in rising order, at the places 0, 1 and so on". */
    private static void placesFromZero() {
        LearnedLedge ledge = with(2, 16, 5);
        Check.due("the only key", 0, ledge.place(5));
        ledge.append(6);
        Check.due("the next key", 1, ledge.place(6));
        ledge.insert(4);
        ledge.insert(7);
        ledge.merge();
        Check.due("merged ahead", 0, ledge.place(4));
        Check.due("moved on", 1, ledge.place(5));
        Check.due("merged behind", 3, ledge.place(7));
        Check.due("the last place of a full row", 255, Ledges.fullByRow().place(510));
    }

    /** "a key of the row can be marked as removed, and keeps its place until it is dropped." */
    private static void markedKeyKeepsItsPlace() {
        LearnedLedge ledge = with(2, 4, 0, 10, 20);
        ledge.remove(0);
        Check.due("first one marked", 0, ledge.place(0));
        Check.due("the next one's place", 1, ledge.place(10));
        Check.due("the piece begins with it", 0, ledge.firstKey(0));
        ledge.remove(20);
        Check.due("last one marked", 2, ledge.place(20));
        Check.due("behind the last one", 3, ledge.place(21));
        ledge.append(30);
        Check.due("behind a marked one", 3, ledge.place(30));
        ledge.merge();
        Check.due("dropped", 0, ledge.place(10));
        Check.due("both dropped", 1, ledge.place(30));
    }

    /** "The buffer has keys that came late, none of which is in the row." */
    private static void bufferIsNotTheRow() {
        LearnedLedge ledge = with(0, 4, 0, 10);
        ledge.insert(5);
        Check.due("no key of the row", 2, ledge.rowSize());
        Check.due("no place of its own", 1, ledge.place(10));
        Check.due("the pieces don't know it", 1, ledge.pieces());
        ledge.remove(10);
        ledge.insert(10);
        Check.due("the row's own key does not come to the buffer", 1, ledge.buffered());
        LearnedLedge none = new LearnedLedge();
        none.insert(5);
        Check.due("a first key that is inserted is late too", 0, none.rowSize());
        Check.due("and makes no piece", 0, none.pieces());
    }

    /** "Row and buffer together have at most 256 keys". */
    private static void mostKeys() {
        Check.allowed("the 256th, appended", 1, Ledges::oneShort, x -> x.append(510));
        Check.allowed("the 256th, of many", 1, Ledges::oneShort, x -> x.appendMany(510, 2, 1));
        Check.allowed("the 256th, inserted", 1, Ledges::oneShort, x -> x.insert(1));
        Check.refused("the 257th, of many", STATE, Ledges::oneShort, x -> x.appendMany(510, 2, 2));
        Check.refused("the 257th, appended to the row", STATE, Ledges::fullByRow, x -> x.append(512));
        Check.refused("the 257th, one of many", STATE, Ledges::fullByRow, x -> x.appendMany(512, 1, 1));
        Check.refused("the 257th, inserted", STATE, Ledges::fullByRow, x -> x.insert(1));
        Check.refused("appended with a buffer", STATE, Ledges::fullByBuffer, x -> x.append(512));
        Check.refused("one of many with a buffer", STATE, Ledges::fullByBuffer, x -> x.appendMany(512, 1, 1));
        Check.refused("inserted with a buffer", STATE, Ledges::fullByBuffer, x -> x.insert(3));
        LearnedLedge again = Ledges.fullByBuffer();
        again.remove(1);
        Check.due("room again when the buffer's key left", 1, again.insert(3));
    }

    /** "marked ones too." */
    private static void mostKeysWithMarks() {
        Check.refused("append", STATE, Ledges::fullByMarks, x -> x.append(512));
        Check.refused("appendMany", STATE, Ledges::fullByMarks, x -> x.appendMany(512, 1, 1));
        Check.refused("insert", STATE, Ledges::fullByMarks, x -> x.insert(1));
        Check.allowed("a marked one needs no room", 0, Ledges::fullByMarks, x -> x.insert(510));
        LearnedLedge dropped = Ledges.fullByMarks();
        dropped.merge();
        Check.due("room for two when they are dropped", 1, dropped.insert(1));
        Check.due("the second one", 2, dropped.insert(3));
        Check.due("a third one", STATE.getName(), Check.answerOf(() -> dropped.insert(5)));
    }

    /** "Row and buffer together have at most 256 keys", where a merge makes the row full. */
    private static void mostKeysByMerging() {
        LearnedLedge ledge = Ledges.evens(240);
        for (int late = 1; late < 16; late++) {
            Check.due("waits", late, ledge.insert(2 * late - 1));
        }
        Check.due("the 256th key fills the buffer", 0, ledge.insert(31));
        Check.due("all in the row", 256, ledge.rowSize());
        Check.due("the last place", 255, ledge.place(478));
        Check.due("no room", STATE.getName(), Check.answerOf(() -> ledge.insert(33)));
        LearnedLedge drops = Ledges.evens(255);
        drops.rebuild(2, 1);
        drops.remove(508);
        Check.due("a room of one, at the 256th key", 0, drops.insert(1));
        Check.due("merged, and the marked one dropped", 255, drops.rowSize());
    }

    /** "The bound is a number from 0 to 20, at first 2." */
    private static void boundAtFirst() {
        LearnedLedge ledge = new LearnedLedge();
        Check.due("three keys ask for no slope at 2", 1, ledge.appendMany(0, 1, 3));
        Check.due("that would be less than 2", 0, ledge.rise(0));
        Check.due("the worst error", 2, ledge.worstError());
        ledge.append(3);
        Check.due("that would be more than 2", 1, ledge.rise(0));
        Check.due("of three", 3, ledge.run(0));
    }

    /** "The bound is a number from 0 to 20": the pieces by the least one and by the greatest one. */
    private static void boundsFromTo() {
        Check.due("0 in line", 1, with(0, 4, 0, 10, 20).pieces());
        Check.due("0 one too near", 2, with(0, 4, 0, 10, 19).pieces());
        Check.due("0 one too far", 2, with(0, 4, 0, 10, 21).pieces());
        LearnedLedge wide = with(20, 4);
        wide.appendMany(0, 1, 41);
        Check.due("20 asks for a half", 2, wide.run(0));
        // 122 at the place 41 is guessed 61, just 20 off.
        Check.due("20 off", 1, wide.append(122));
        LearnedLedge wider = with(20, 4);
        wider.appendMany(0, 1, 41);
        Check.due("more than 20 off", 2, wider.append(123));
    }

    /** "a slope s of at least 0 is possible" and "The slope of a piece is the least one that is possible." */
    private static void leastSlope() {
        LearnedLedge one = with(0, 4, 7);
        Check.due("one key, rise", 0, one.rise(0));
        Check.due("one key, run", 1, one.run(0));
        LearnedLedge flat = with(20, 4);
        flat.appendMany(0, 1, 21);
        Check.due("just flat", 0, flat.rise(0));
        flat.append(21);
        Check.due("not flat any more", 1, flat.rise(0));
        Check.due("by one of 21", 21, flat.run(0));
        // At bound 1, 2 at the place 2 asks for 1/2, 3 at 3 for 2/3, and 5 at 4 for 3/5, which is less.
        LearnedLedge kept = with(1, 4, 0, 1, 2, 3, 5);
        Check.due("a lesser demand changes nothing, rise", 2, kept.rise(0));
        Check.due("a lesser demand changes nothing, run", 3, kept.run(0));
        // 10 at 2 asks for 1/10, 20 at 3 for 2/20, which is the same, and 21 at 4 for 3/21.
        LearnedLedge same = with(1, 4, 0, 5, 10, 20);
        Check.due("the same demand, rise", 1, same.rise(0));
        Check.due("the same demand, run", 10, same.run(0));
        same.append(21);
        Check.due("a greater demand, rise", 1, same.rise(0));
        Check.due("a greater demand, run", 7, same.run(0));
    }

    /** "at most the bound", where the slope that the keys ask for meets what an earlier key allows. */
    private static void slopeAtTheUpperEdge() {
        // At bound 1, 10 at the place 1 allows 2/10; 15 and 14 at the place 4 ask for 3/15 and 3/14.
        Check.due("just as steep", 1, with(1, 4, 0, 10, 11, 12, 15).pieces());
        Check.due("too steep", 2, with(1, 4, 0, 10, 11, 12, 14).pieces());
        // At bound 2, 18 at the place 1 allows 3/18; 24 and 23 at the place 6 ask for 4/24 and 4/23.
        Check.due("just as steep, 2", 1, with(2, 4, 0, 18, 19, 20, 21, 22, 24).pieces());
        Check.due("too steep, 2", 2, with(2, 4, 0, 18, 19, 20, 21, 22, 23).pieces());
    }

    /** "at most the bound", where the slope that earlier keys ask for meets what the key allows. */
    private static void slopeAtTheLowerEdge() {
        // At bound 1, 6 at the place 3 asks for 2/6; 15 and 16 at the place 4 allow 5/15 and 5/16.
        Check.due("just as flat", 1, with(1, 4, 0, 2, 4, 6, 15).pieces());
        Check.due("too flat", 2, with(1, 4, 0, 2, 4, 6, 16).pieces());
        // At bound 2, 3 at the place 3 asks for 1/3; 18 and 19 at the place 4 allow 6/18 and 6/19.
        Check.due("just as flat, 2", 1, with(2, 4, 0, 1, 2, 3, 18).pieces());
        Check.due("too flat, 2", 2, with(2, 4, 0, 1, 2, 3, 19).pieces());
    }

    /** "The guess for a key, by a piece, is p + s * (key - f), rounded down." */
    private static void guessRoundedDown() {
        LearnedLedge ledge = with(0, 4, 0, 10, 20, 31, 38, 45);
        Check.due("two pieces", 2, ledge.pieces());
        Check.due("whole already", 1, ledge.guess(10));
        Check.due("just not whole", 0, ledge.guess(9));
        Check.due("just above", 1, ledge.guess(11));
        Check.due("just below the next", 1, ledge.guess(19));
        Check.due("from the second piece's place", 3, ledge.guess(31));
        Check.due("just not one more", 3, ledge.guess(37));
        Check.due("one more", 4, ledge.guess(38));
        Check.due("one key of slope 0", 0, with(0, 4, 5).guess(GREATEST));
    }

    /** "The piece of a key is the last one whose first key is not greater than it". */
    private static void pieceOfAKey() {
        LearnedLedge ledge = with(0, 4, 0, 1, 2, 100, 200);
        Check.due("two pieces", 2, ledge.pieces());
        Check.due("just ahead of the second one's first key", 99, ledge.guess(99));
        Check.due("that key itself", 3, ledge.guess(100));
        Check.due("just behind it", 3, ledge.guess(101));
        ledge.remove(100);
        Check.due("marked: just ahead", 99, ledge.guess(99));
        Check.due("marked: itself", 3, ledge.guess(100));
        Check.due("behind all", 3 + (GREATEST - 100) / 100, ledge.guess(GREATEST));
    }

    /** "a key that is less than all keys of the row has no piece." */
    private static void noPiece() {
        LearnedLedge ledge = with(0, 16, 10, 20);
        ledge.insert(5);
        Check.due("one less", LearnedLedge.NONE, ledge.guess(9));
        Check.due("one less, looks", 0, ledge.looks(9));
        Check.due("the least one", 0, ledge.guess(10));
        Check.due("the least one, looks", 1, ledge.looks(10));
        Check.due("the buffer's is less too", LearnedLedge.NONE, ledge.guess(5));
        ledge.remove(10);
        Check.due("the least one, marked", 0, ledge.guess(10));
        ledge.merge();
        Check.due("the buffer's, merged", 0, ledge.guess(5));
        Check.due("the dropped one, by another piece", 0, ledge.guess(10));
        Check.due("no piece from the least key on", 0, with(0, 4, LEAST).guess(LEAST));
        Check.due("no piece, the least key", LearnedLedge.NONE, with(0, 4, LEAST + 1).guess(LEAST));
        LearnedLedge late = new LearnedLedge();
        Check.due("no row", LearnedLedge.NONE, late.guess(GREATEST));
        late.insert(0);
        Check.due("a buffer alone", LearnedLedge.NONE, late.guess(GREATEST));
        Check.due("a buffer alone, looks", 0, late.looks(GREATEST));
    }

    /** "the next piece begins with the first key that it could not take, and so on." */
    private static void cutting() {
        // 20 is in line with 0 and 10, but comes behind 11, which is not.
        LearnedLedge ledge = with(0, 4, 0, 10, 11, 20, 29, 30);
        looksLike("cut as they come", "keys 0 10 11 20 29 30 pieces 0:0:1/10 2:11:1/9 5:30:0/1"
                + " size 6 pieces 3 row 6 marked 0 buffered 0 merges 0 splits 0 joins 0", ledge);
        ledge.rebuild(0, 4);
        Check.due("cut anew", 3, ledge.pieces());
        Check.due("as before", 5, ledge.start(2));
        LearnedLedge one = with(20, 4, 3);
        Check.due("the first piece takes the first key", 1, one.pieces());
        Check.due("whatever it is", 3, one.firstKey(0));
    }

    /** "Each key of the buffer comes to its piece". */
    private static void lateKeysToTheirPiece() {
        // 99 makes 0 1 2 | 99, in the first piece; 101 makes 100 101 | 200, in the second one.
        LearnedLedge ahead = with(0, 4, 0, 1, 2, 100, 200);
        ahead.insert(99);
        ahead.merge();
        looksLike("ahead of the second one", "keys 0 1 2 99 100 200 pieces 0:0:1/1 3:99:0/1 4:100:1/100"
                + " size 6 pieces 3 row 6 marked 0 buffered 0 merges 1 splits 1 joins 0", ahead);
        LearnedLedge behind = with(0, 4, 0, 1, 2, 100, 200);
        behind.insert(101);
        behind.merge();
        looksLike("behind its first key", "keys 0 1 2 100 101 200 pieces 0:0:1/1 3:100:1/1 5:200:0/1"
                + " size 6 pieces 3 row 6 marked 0 buffered 0 merges 1 splits 1 joins 0", behind);
        LearnedLedge last = with(0, 4, 0, 10, 20);
        last.insert(30);
        Check.due("behind all keys, to the last one", 1, last.merge());
        Check.due("no split", 0, last.splits());
    }

    /** "or to the first one, if it has none". */
    private static void lateKeysToTheFirstPiece() {
        LearnedLedge line = with(0, 4, 0, 10, 20, 21);
        line.insert(-10);
        line.merge();
        looksLike("in line", "keys -10 0 10 20 21 pieces 0:-10:1/10 4:21:0/1"
                + " size 5 pieces 2 row 5 marked 0 buffered 0 merges 1 splits 0 joins 0", line);
        // -1 0 | 10 20, and 21 30 as it was: -1 alone would not be a split.
        LearnedLedge split = with(0, 4, 0, 10, 20, 21, 30);
        split.insert(-1);
        split.merge();
        looksLike("out of line", "keys -1 0 10 20 21 30 pieces 0:-1:1/1 2:10:1/10 4:21:1/9"
                + " size 6 pieces 3 row 6 marked 0 buffered 0 merges 1 splits 1 joins 0", split);
        LearnedLedge edge = with(0, 4, LEAST + 1, LEAST + 2);
        edge.insert(LEAST);
        Check.due("the least key", 1, edge.merge());
        Check.due("is the first one then", LEAST, edge.firstKey(0));
    }

    /** "without any piece, all of them make a new one, which has got keys." */
    private static void lateKeysWithoutPieces() {
        LearnedLedge none = with(0, 16);
        Check.due("no keys, no piece", 0, none.merge());
        none.insert(4);
        Check.due("one key", 1, none.merge());
        Check.due("no split", 0, none.splits());
        LearnedLedge cut = with(0, 16);
        for (int key : new int[] {9, 5, 4, 1, 0}) {
            cut.insert(key);
        }
        // 0 1 | 4 5 | 9: the two pieces more than the one are splits.
        Check.due("cut", 3, cut.merge());
        Check.due("splits", 2, cut.splits());
        LearnedLedge dropped = with(0, 16, 0, 10);
        dropped.remove(0);
        dropped.remove(10);
        dropped.merge();
        dropped.insert(1);
        dropped.insert(0);
        Check.due("after all pieces vanished", 1, dropped.merge());
        Check.due("first key", 0, dropped.firstKey(0));
        Check.due("slope", 1, dropped.run(0));
    }

    /** "with the pieces as they are ahead of it", their first keys marked or not. */
    private static void piecesAsTheyAreAhead() {
        // 99 comes to 0 1 2, and 101 to 100 200, whose 100 is dropped then.
        LearnedLedge ledge = with(0, 4, 0, 1, 2, 100, 200);
        ledge.remove(100);
        ledge.insert(99);
        ledge.insert(101);
        ledge.merge();
        looksLike("first key marked", "keys 0 1 2 99 101 200 pieces 0:0:1/1 3:99:0/1 4:101:1/99"
                + " size 6 pieces 3 row 6 marked 0 buffered 0 merges 1 splits 1 joins 0", ledge);
        // 0 is less than all of the row, 15 is not: both come to 10 20, and 10 is dropped.
        LearnedLedge first = with(0, 4, 10, 20);
        first.remove(10);
        first.insert(0);
        first.insert(15);
        first.merge();
        looksLike("least key marked", "keys 0 15 20 pieces 0:0:1/15 2:20:0/1"
                + " size 3 pieces 2 row 3 marked 0 buffered 0 merges 1 splits 1 joins 0", first);
    }

    /** "Pieces without keys vanish". */
    private static void piecesVanish() {
        int[] keys = {0, 1, 2, 100, 200, 250, 260};
        LearnedLedge first = removed(with(0, 4, keys), 0, 1, 2);
        Check.due("the first one", 2, first.merge());
        Check.due("then comes", 100, first.firstKey(0));
        Check.due("no split", 0, first.splits());
        Check.due("no join", 0, first.joins());
        LearnedLedge middle = removed(with(0, 4, keys), 100, 200);
        Check.due("the middle one", 2, middle.merge());
        Check.due("then comes", 250, middle.firstKey(1));
        Check.due("its place", 3, middle.start(1));
        LearnedLedge last = removed(with(0, 4, keys), 250, 260);
        Check.due("the last one", 2, last.merge());
        Check.due("the one ahead", 100, last.firstKey(1));
        Check.due("takes further keys", 2, last.append(300));
        LearnedLedge all = removed(with(0, 4, keys), keys);
        Check.due("all", 0, all.merge());
        Check.due("no row", 0, all.rowSize());
        Check.due("no split", 0, all.splits());
        LearnedLedge between = removed(with(0, 4, 0, 10, 20, 21, 22, 30, 40), 21, 22);
        Check.due("the one between goes, the others join", 1, between.merge());
        Check.due("one join", 1, between.joins());
    }

    /** "the other ones are kept." */
    private static void piecesAreKept() {
        LearnedLedge one = removed(with(0, 16, 0, 1, 2, 100, 200), 0, 2);
        Check.due("by one key left", 2, one.merge());
        Check.due("that key", 1, one.firstKey(0));
        LearnedLedge got = removed(with(0, 16, 0, 1, 2, 100, 200), 0, 1, 2);
        got.insert(50);
        got.merge();
        Check.due("by one key got", 50, got.firstKey(0));
        Check.due("beside the next one", 100, got.firstKey(1));
        LearnedLedge still = with(0, 16, 0, 1, 2, 100, 200);
        Check.due("without a change", 2, still.merge());
        Check.due("at its place", 3, still.start(1));
    }

    /** "The keys of each piece that has got or lost a key are cut into pieces .. Each piece more than the one is a split." */
    private static void eachPieceMoreIsASplit() {
        LearnedLedge none = removed(with(0, 16, 0, 10, 20, 30), 30);
        none.merge();
        Check.due("lost, not cut", 0, none.splits());
        LearnedLedge one = removed(with(0, 16, 0, 10, 20, 30), 20);
        one.merge();
        Check.due("lost, cut in two", 1, one.splits());
        LearnedLedge two = with(0, 16, 0, 10, 20, 30);
        two.insert(11);
        two.merge();
        Check.due("got, cut in three", 2, two.splits());
        LearnedLedge each = with(0, 16, 0, 10, 20, 30, 31, 41, 51, 61);
        each.remove(20);
        each.insert(42);
        each.merge();
        // 0 10 | 30, and 31 41 | 42 51 | 61.
        Check.due("in two pieces", 3, each.splits());
        // At bound 1, 15 at the place 4 asks for just what 10 allows, and 14 for more.
        LearnedLedge fits = with(1, 16, 0, 10, 12, 15);
        fits.insert(11);
        Check.due("just fits", 1, fits.merge());
        LearnedLedge not = with(1, 16, 0, 10, 12, 14);
        not.insert(11);
        Check.due("just does not fit", 2, not.merge());
        Check.due("is a split", 1, not.splits());
    }

    /** "if the keys of a piece and those of the next one, together, fit one piece, both are joined to one". */
    private static void joinAtTheEdge() {
        LearnedLedge steep = removed(with(1, 16, 0, 10, 11, 12, 13, 15), 13);
        Check.due("two pieces ahead", 2, steep.pieces());
        Check.due("just fits", 1, steep.merge());
        Check.due("is a join", 1, steep.joins());
        Check.due("its slope, rise", 1, steep.rise(0));
        Check.due("its slope, run", 5, steep.run(0));
        LearnedLedge not = removed(with(1, 16, 0, 10, 11, 12, 13, 14), 13);
        Check.due("just does not fit", 2, not.merge());
        Check.due("is no join", 0, not.joins());
        // Without 1, 6 is at the place 3 and asks for 2/6; 15 and 16 allow 5/15 and 5/16.
        LearnedLedge flat = removed(with(1, 16, 0, 1, 2, 4, 6, 15), 1);
        Check.due("two pieces ahead", 2, flat.pieces());
        Check.due("just fits, from the other side", 1, flat.merge());
        Check.due("is a join, too", 1, flat.joins());
        LearnedLedge far = removed(with(1, 16, 0, 1, 2, 4, 6, 16), 1);
        Check.due("just does not fit, from the other side", 2, far.merge());
        Check.due("is no join either", 0, far.joins());
        // All keys must fit, not the first one alone: 30 would, 39 does not.
        LearnedLedge partly = removed(with(0, 16, 0, 10, 20, 21, 30, 39), 21);
        Check.due("pieces ahead", 2, partly.pieces());
        Check.due("the next one's second key does not fit", 2, partly.merge());
        Check.due("then no join", 0, partly.joins());
        Check.due("its slope is its own", 9, partly.run(1));
        Check.due("it goes on by that", 2, partly.append(48));
    }

    /** "which is looked at again, with the next one behind it"; "Each time is a join." */
    private static void joinedIsLookedAtAgain() {
        LearnedLedge twice = removed(with(0, 16, 0, 1, 10, 11, 20, 21), 1, 11, 21);
        Check.due("three to one", 1, twice.merge());
        Check.due("two joins", 2, twice.joins());
        LearnedLedge once = removed(with(0, 16, 0, 1, 10, 11, 21, 22), 1, 11, 22);
        Check.due("the third does not fit both", 2, once.merge());
        Check.due("one join", 1, once.joins());
        Check.due("it begins at", 21, once.firstKey(1));
    }

    /** "otherwise the next piece is looked at." */
    private static void otherwiseTheNextPiece() {
        LearnedLedge ledge = removed(with(0, 16, 0, 1, 10, 11, 20, 21), 11, 21);
        looksLike("ahead", "keys 0 1 10 20 pieces 0:0:1/1 2:10:1/1 4:20:1/1"
                + " size 4 pieces 3 row 6 marked 2 buffered 0 merges 0 splits 0 joins 0", ledge);
        ledge.merge();
        looksLike("the second and the third", "keys 0 1 10 20 pieces 0:0:1/1 2:10:1/10"
                + " size 4 pieces 2 row 4 marked 0 buffered 0 merges 1 splits 0 joins 1", ledge);
        Check.due("the last one takes further keys", 2, ledge.append(30));
    }

    /** "From the first piece on": where none are to be joined, no join is counted. */
    private static void noJoinWithoutCause() {
        LearnedLedge none = new LearnedLedge();
        none.merge();
        Check.due("no pieces", 0, none.joins());
        LearnedLedge one = with(0, 4, 5);
        one.merge();
        Check.due("one piece", 0, one.joins());
        LearnedLedge cut = with(0, 4, 0, 10, 11, 20);
        cut.merge();
        Check.due("pieces as they were cut", 0, cut.joins());
        Check.due("all of them", 2, cut.pieces());
    }

    /** "The buffer is empty then." */
    private static void bufferIsEmptyThen() {
        LearnedLedge ledge = with(2, 2, 0, 10);
        ledge.insert(5);
        ledge.merge();
        Check.due("by merge", 0, ledge.buffered());
        Check.due("and takes keys anew", 1, ledge.insert(6));
        Check.due("by insert", 0, ledge.insert(7));
        Check.due("none of them is twice there", 5, ledge.size());
        Check.due("they are in the row", 5, ledge.rowSize());
        ledge.remove(5);
        Check.due("and are marked there", 1, ledge.marked());
        Check.due("gone", ELEMENT.getName(), Check.answerOf(() -> ledge.remove(5)));
    }

    private static LearnedLedge removed(LearnedLedge ledge, int... keys) {
        for (int key : keys) {
            ledge.remove(key);
        }
        return ledge;
    }
}
