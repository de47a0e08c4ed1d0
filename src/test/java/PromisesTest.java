/**
 * Each promise of the document by itself, as it is used. The calls that are refused, and the edges
 * sentence by sentence, are in TermsEdgesTest and CallsEdgesTest.
 */
public final class PromisesTest {
    private PromisesTest() {
    }

    public static void main(String[] args) {
        newObject();
        append();
        appendAtTheBound();
        appendBehindAll();
        appendMany();
        appendManyBehindAll();
        insert();
        insertIntoTheFull();
        remove();
        mergeSplits();
        mergeJoins();
        mergeDropsAndSends();
        mergeWithoutPieces();
        rebuild();
        sizeAndContains();
        rankAndCount();
        select();
        ceiling();
        place();
        guess();
        looks();
        worstError();
        piecesAndStarts();
        riseAndRun();
        slopesAndCommonest();
        bufferedMarkedRowSize();
        mergesSplitsJoins();
        Check.end("PromisesTest");
    }

    private static LearnedLedge with(int bound, int room, int... keys) {
        return Ledges.with(bound, room, keys);
    }

    private static void newObject() {
        Check.due("NONE", -1, LearnedLedge.NONE);
        LearnedLedge ledge = new LearnedLedge();
        Check.due("1 new:", "keys pieces size 0 pieces 0 row 0 marked 0 buffered 0 merges 0 splits 0 joins 0",
                Check.looksLike(ledge));
        Check.due("1 room, first", 1, ledge.insert(1));
        Check.due("1 room, second", 2, ledge.insert(2));
        Check.due("1 room, third", 3, ledge.insert(3));
        Check.due("1 room, fourth", 0, ledge.insert(4));
        Check.due("1 merges", 1, ledge.merges());
        // At bound 2 the key 3 at the place 3 asks for a slope of 1/3, and 1000 allows 6/1000.
        LearnedLedge bounded = new LearnedLedge();
        bounded.appendMany(0, 1, 3);
        Check.due("1 bound is not less", 1, bounded.append(1000));
        bounded = new LearnedLedge();
        bounded.appendMany(0, 1, 4);
        Check.due("1 bound is not more", 2, bounded.append(1000));
    }

    private static void append() {
        LearnedLedge ledge = with(0, 4);
        Check.due("2 first key", 1, ledge.append(-1000000));
        Check.due("2 two keys fit", 1, ledge.append(-999990));
        Check.due("2 third key in line", 1, ledge.append(-999980));
        Check.due("2 key out of line", 2, ledge.append(-999971));
        Check.due("2 follows the last piece", 2, ledge.append(-999962));
        Check.due("2 greatest key", 3, ledge.append(1000000));
        Check.due("2 looks:", "keys -1000000 -999990 -999980 -999971 -999962 1000000"
                + " pieces 0:-1000000:1/10 3:-999971:1/9 5:1000000:0/1"
                + " size 6 pieces 3 row 6 marked 0 buffered 0 merges 0 splits 0 joins 0", Check.looksLike(ledge));
        ledge = with(0, 4, 0, 10);
        ledge.remove(10);
        Check.due("2 a marked key holds its place", 1, ledge.append(20));
        Check.due("2 place behind the marked one", 2, ledge.place(20));
        ledge = with(0, 16, 0, 10, 20);
        ledge.insert(5);
        Check.due("2 a buffer's key has no place", 1, ledge.append(30));
        ledge.remove(0);
        ledge.remove(10);
        ledge.remove(20);
        ledge.remove(5);
        ledge.remove(30);
        ledge.merge();
        Check.due("2 after all keys were dropped", 1, ledge.append(3));
        Check.due("2 the first one again", 3, ledge.firstKey(0));
    }

    private static void appendAtTheBound() {
        // At bound 1, 10 at the place 1 allows 2/10, and 15 at the place 4 asks for 3/15.
        Check.due("2 asks for just what is allowed", 1, with(1, 4, 0, 10, 11, 12).append(15));
        Check.due("2 asks for more", 2, with(1, 4, 0, 10, 11, 12).append(14));
        // 6 at the place 3 asks for 2/6, and 15 at the place 4 allows 5/15.
        Check.due("2 allows just what is asked for", 1, with(1, 4, 0, 2, 4, 6).append(15));
        Check.due("2 allows less", 2, with(1, 4, 0, 2, 4, 6).append(16));
    }

    private static void appendBehindAll() {
        LearnedLedge ledge = with(2, 4, 0, 10);
        ledge.insert(15);
        ledge.remove(10);
        Check.due("2 greater than all", 1, ledge.append(16));
        LearnedLedge full = Ledges.fullByBuffer();
        full.remove(2);
        full.merge();
        Check.due("2 room again", 2, full.append(500000));
        Check.due("2 full again", 256, full.size());
    }

    private static void appendMany() {
        LearnedLedge ledge = with(0, 4);
        Check.due("3 in line", 1, ledge.appendMany(-50, 7, 3));
        Check.due("3 the last one", -36, ledge.select(2));
        Check.due("3 going on in line", 1, ledge.appendMany(-29, 7, 1));
        Check.due("3 another step", 2, ledge.appendMany(-21, 1, 5));
        Check.due("3 second piece", 4, ledge.start(1));
        Check.due("3 greatest step and number", 3, ledge.appendMany(0, 10000, 100));
        Check.due("3 keys", 109, ledge.size());
        Check.due("3 the last key", 990000, ledge.select(108));
        LearnedLedge ends = with(0, 4);
        Check.due("3 up to the ends", 1, ends.appendMany(-1000000, 10000, 100));
        Check.due("3 up to the ends", 1, ends.appendMany(0, 10000, 100));
        Check.due("3 the very last", 1, ends.appendMany(1000000, 1, 1));
        Check.due("3 keys then", 201, ends.rowSize());
    }

    private static void appendManyBehindAll() {
        LearnedLedge ledge = with(2, 4, 0, 10);
        ledge.insert(15);
        ledge.remove(10);
        Check.due("3 behind all", 1, ledge.appendMany(16, 10, 2));
        LearnedLedge full = Ledges.fullByBuffer();
        full.remove(1);
        full.appendMany(600, 1, 1);
        Check.due("3 just enough", 256, full.rowSize());
    }

    private static void insert() {
        LearnedLedge ledge = with(2, 3, 10, 20, 30);
        Check.due("4 to the buffer", 1, ledge.insert(25));
        Check.due("4 to the buffer, least key", 2, ledge.insert(-1000000));
        Check.due("4 the row is as it was", 3, ledge.rowSize());
        ledge.remove(20);
        Check.due("4 the mark is taken away", 2, ledge.insert(20));
        Check.due("4 no marks", 0, ledge.marked());
        Check.due("4 it is there again", 1, ledge.contains(20) ? 1 : 0);
        Check.due("4 no merge yet", 0, ledge.merges());
        Check.due("4 full by it", 0, ledge.insert(1000000));
        Check.due("4 merged", 1, ledge.merges());
        Check.due("4 all in the row", 6, ledge.rowSize());
        Check.due("4 in order", 25, ledge.select(3));
        LearnedLedge one = with(2, 1);
        Check.due("4 room of one", 0, one.insert(5));
        Check.due("4 room of one", 0, one.insert(3));
        Check.due("4 room of one", 2, one.merges());
        one.remove(5);
        Check.due("4 unmarking merges nothing", 0, one.insert(5));
        Check.due("4 unmarking merges nothing", 2, one.merges());
        LearnedLedge wide = with(2, 16);
        for (int key = 15; key > 0; key--) {
            Check.due("4 wide room", 16 - key, wide.insert(key));
        }
        Check.due("4 sixteenth", 0, wide.insert(0));
        wide.insert(-1);
        wide.remove(-1);
        Check.due("4 again after it left the buffer", 1, wide.insert(-1));
    }

    private static void insertIntoTheFull() {
        LearnedLedge full = Ledges.fullByBuffer();
        full.remove(4);
        Check.due("4 full, but the row has it marked", 1, full.insert(4));
        full.remove(1);
        Check.due("4 room again", 1, full.insert(3));
    }

    private static void remove() {
        LearnedLedge ledge = with(2, 4, 0, 10, 20);
        ledge.insert(5);
        ledge.insert(7);
        Check.due("5 of the row", 4, ledge.remove(10));
        Check.due("5 it is marked", 1, ledge.marked());
        Check.due("5 it keeps its place", 2, ledge.place(20));
        Check.due("5 of the buffer", 3, ledge.remove(5));
        Check.due("5 it left", 1, ledge.buffered());
        Check.due("5 the other one stays", 1, ledge.contains(7) ? 1 : 0);
        Check.due("5 row as before", 3, ledge.rowSize());
        Check.due("5 first of the row", 2, ledge.remove(0));
        Check.due("5 last of the row", 1, ledge.remove(20));
        Check.due("5 last one", 0, ledge.remove(7));
        ledge.merge();
    }

    private static void mergeSplits() {
        LearnedLedge ledge = with(0, 4, 0, 10, 20, 30);
        ledge.insert(11);
        // 0 10 | 11 20 | 30: of these, 11 20 and 30 are not in line, nor are 0 10 and 11.
        Check.due("6 pieces", 3, ledge.merge());
        Check.due("6 looks:", "keys 0 10 11 20 30 pieces 0:0:1/10 2:11:1/9 4:30:0/1"
                + " size 5 pieces 3 row 5 marked 0 buffered 0 merges 1 splits 2 joins 0", Check.looksLike(ledge));
        ledge = with(0, 4, 0, 10, 20, 30);
        ledge.remove(20);
        Check.due("6 a lost key splits too", 2, ledge.merge());
        Check.due("6 splits", 1, ledge.splits());
        Check.due("6 row", 3, ledge.rowSize());
        Check.due("6 marks are gone", 0, ledge.marked());
        ledge = with(0, 4, 0, 10, 20, 30);
        Check.due("6 nothing to merge", 1, ledge.merge());
        Check.due("6 counts all the same", 1, ledge.merges());
    }

    private static void mergeJoins() {
        // 0 10 20 | 21 31 | 32 42, then 21 and 32 go: 0 10 20 | 31 | 42.
        LearnedLedge ledge = with(0, 4, 0, 10, 20, 21, 31, 32, 42);
        Check.due("6 ahead", 3, ledge.pieces());
        ledge.remove(21);
        ledge.remove(32);
        ledge.remove(42);
        ledge.append(50);
        Check.due("6 the last piece could not take it", 4, ledge.pieces());
        // 0 10 20 | 31 | (vanished) | 50: 31 does not join the first piece, but takes 50.
        Check.due("6 joined", 2, ledge.merge());
        Check.due("6 looks:", "keys 0 10 20 31 50 pieces 0:0:1/10 3:31:1/19"
                + " size 5 pieces 2 row 5 marked 0 buffered 0 merges 1 splits 0 joins 1", Check.looksLike(ledge));
        // A joined piece is looked at again: 0 | 10 | 20 were begun by keys that are gone.
        ledge = with(0, 16, 0, 1, 10, 11, 20, 21);
        Check.due("6 three pieces", 3, ledge.pieces());
        ledge.remove(1);
        ledge.remove(11);
        ledge.remove(21);
        Check.due("6 joined twice", 1, ledge.merge());
        Check.due("6 joins", 2, ledge.joins());
        Check.due("6 slope", 10, ledge.run(0));
        // Going on after a merge, the last piece takes what it could take.
        Check.due("6 goes on in line", 1, ledge.append(30));
        Check.due("6 goes on out of line", 2, ledge.append(41));
    }

    private static void mergeDropsAndSends() {
        // Keys go by the first keys ahead of the merge, marked ones too: 25 to the piece of 20.
        LearnedLedge ledge = with(0, 16, 0, 10, 20, 21, 22, 23);
        Check.due("6 ahead", 2, ledge.pieces());
        Check.due("6 ahead", 21, ledge.firstKey(1));
        ledge.remove(21);
        ledge.insert(-5);
        ledge.insert(30);
        // -5 0 | 10 20 and 22 23 | 30: two splits, and 20 is not joined to 22.
        Check.due("6 pieces", 4, ledge.merge());
        Check.due("6 looks:", "keys -5 0 10 20 22 23 30 pieces 0:-5:1/5 2:10:1/10 4:22:1/1 6:30:0/1"
                + " size 7 pieces 4 row 7 marked 0 buffered 0 merges 1 splits 2 joins 0", Check.looksLike(ledge));
        // All keys of the first piece go, and a lesser one comes: the piece is kept by it.
        ledge = with(0, 16, 0, 10, 11, 12);
        ledge.remove(0);
        ledge.remove(10);
        ledge.insert(-7);
        // -7 | 11 12 are not in line.
        Check.due("6 the first piece is kept", 2, ledge.merge());
        Check.due("6 first key", -7, ledge.firstKey(0));
        Check.due("6 row", 3, ledge.rowSize());
        Check.due("6 no split", 0, ledge.splits());
        Check.due("6 no join", 0, ledge.joins());
        ledge = with(2, 4, 0, 10);
        ledge.remove(0);
        ledge.remove(10);
        Check.due("6 all dropped", 0, ledge.merge());
        Check.due("6 no row", 0, ledge.rowSize());
    }

    private static void mergeWithoutPieces() {
        LearnedLedge ledge = with(0, 16);
        Check.due("6 of nothing", 0, ledge.merge());
        Check.due("6 of nothing counts", 1, ledge.merges());
        ledge.insert(4);
        ledge.insert(1);
        ledge.insert(0);
        Check.due("6 a new piece, cut", 2, ledge.merge());
        Check.due("6 that is a split", 1, ledge.splits());
        Check.due("6 second piece", 4, ledge.firstKey(1));
        Check.due("6 no join", 0, ledge.joins());
    }

    private static void rebuild() {
        LearnedLedge ledge = with(2, 4, 0, 10, 20, 30, 40);
        ledge.insert(11);
        ledge.remove(30);
        Check.due("7 another bound", 3, ledge.rebuild(0, 2));
        Check.due("7 looks:", "keys 0 10 11 20 40 pieces 0:0:1/10 2:11:1/9 4:40:0/1"
                + " size 5 pieces 3 row 5 marked 0 buffered 0 merges 0 splits 0 joins 0", Check.looksLike(ledge));
        Check.due("7 another room", 1, ledge.insert(60));
        Check.due("7 another room", 0, ledge.insert(50));
        ledge.remove(60);
        ledge.merge();
        String counts = ledge.merges() + " " + ledge.splits() + " " + ledge.joins();
        Check.due("7 greatest bound and room", 1, ledge.rebuild(20, 16));
        Check.due("7 counts stay", counts, ledge.merges() + " " + ledge.splits() + " " + ledge.joins());
        for (int key = 101; key < 116; key++) {
            ledge.insert(key);
        }
        Check.due("7 fifteen of sixteen", 15, ledge.buffered());
        Check.due("7 by the greatest bound", 1, ledge.merge());
        LearnedLedge none = new LearnedLedge();
        Check.due("7 without keys", 0, none.rebuild(0, 1));
        Check.due("7 least room", 0, none.insert(1));
    }

    private static void sizeAndContains() {
        LearnedLedge ledge = with(2, 4, 0, 10, 20);
        Check.due("8 row", 3, ledge.size());
        ledge.insert(5);
        Check.due("8 with the buffer", 4, ledge.size());
        ledge.remove(10);
        Check.due("8 without the marked", 3, ledge.size());
        Check.due("9 row", 1, ledge.contains(20) ? 1 : 0);
        Check.due("9 buffer", 1, ledge.contains(5) ? 1 : 0);
        Check.due("9 marked", 0, ledge.contains(10) ? 1 : 0);
        Check.due("9 never", 0, ledge.contains(6) ? 1 : 0);
        Check.due("9 least int", 0, ledge.contains(Integer.MIN_VALUE) ? 1 : 0);
        Check.due("9 greatest int", 0, ledge.contains(Integer.MAX_VALUE) ? 1 : 0);
    }

    private static void rankAndCount() {
        LearnedLedge ledge = with(2, 4, 0, 10, 20);
        ledge.insert(5);
        ledge.insert(-3);
        ledge.remove(10);
        Check.due("10 least int", 0, ledge.rank(Integer.MIN_VALUE));
        Check.due("10 least key", 0, ledge.rank(-3));
        Check.due("10 above it", 1, ledge.rank(-2));
        Check.due("10 buffer's key", 2, ledge.rank(5));
        Check.due("10 above the buffer's", 3, ledge.rank(6));
        Check.due("10 marked ones don't count", 3, ledge.rank(20));
        Check.due("10 greatest int", 4, ledge.rank(Integer.MAX_VALUE));
        Check.due("13 both included", 3, ledge.count(0, 20));
        Check.due("13 within", 1, ledge.count(1, 19));
        Check.due("13 one", 1, ledge.count(5, 5));
        Check.due("13 marked", 0, ledge.count(10, 10));
        Check.due("13 low above high", 0, ledge.count(20, 0));
        Check.due("13 low one above high", 0, ledge.count(6, 5));
        Check.due("13 all", 4, ledge.count(Integer.MIN_VALUE, Integer.MAX_VALUE));
        Check.due("13 greatest int alone", 0, ledge.count(Integer.MAX_VALUE, Integer.MAX_VALUE));
        Check.due("13 far and wrong", 0, ledge.count(Integer.MAX_VALUE, Integer.MIN_VALUE));
    }

    private static void select() {
        LearnedLedge ledge = with(2, 8, 0, 10, 20);
        ledge.insert(5);
        ledge.insert(-3);
        ledge.insert(30);
        ledge.remove(10);
        int[] due = {-3, 0, 5, 20, 30};
        for (int place = 0; place < due.length; place++) {
            Check.due("11 select", due[place], ledge.select(place));
        }
    }

    private static void ceiling() {
        LearnedLedge ledge = with(2, 8, 0, 10, 20);
        ledge.insert(5);
        ledge.insert(30);
        ledge.remove(10);
        Check.due("12 least int", 0, ledge.ceiling(Integer.MIN_VALUE));
        Check.due("12 itself", 0, ledge.ceiling(0));
        Check.due("12 the buffer's", 5, ledge.ceiling(1));
        Check.due("12 marked ones are passed", 20, ledge.ceiling(6));
        Check.due("12 marked itself", 20, ledge.ceiling(10));
        Check.due("12 last", 30, ledge.ceiling(21));
    }

    private static void place() {
        LearnedLedge ledge = with(2, 4, 0, 10, 20);
        ledge.insert(5);
        ledge.remove(10);
        Check.due("14 least int", 0, ledge.place(Integer.MIN_VALUE));
        Check.due("14 first", 0, ledge.place(0));
        Check.due("14 the buffer doesn't count", 1, ledge.place(6));
        Check.due("14 marked key", 1, ledge.place(10));
        Check.due("14 marked key ahead", 2, ledge.place(11));
        Check.due("14 all are less", 3, ledge.place(21));
        Check.due("14 greatest int", 3, ledge.place(Integer.MAX_VALUE));
        Check.due("14 empty", 0, new LearnedLedge().place(0));
    }

    private static void guess() {
        // 0 10 20 30 by 1/10; 31 33 by 1/2.
        LearnedLedge ledge = with(0, 4, 0, 10, 20, 30, 31, 33);
        Check.due("15 pieces", 2, ledge.pieces());
        Check.due("15 key of the row", 2, ledge.guess(20));
        Check.due("15 rounded down", 1, ledge.guess(19));
        Check.due("15 before the next piece", 3, ledge.guess(30));
        Check.due("15 second piece", 4, ledge.guess(31));
        Check.due("15 second piece, rounded down", 4, ledge.guess(32));
        Check.due("15 far behind", 4 + (1000000 - 31) / 2, ledge.guess(1000000));
        Check.due("15 no piece", LearnedLedge.NONE, ledge.guess(-1));
        Check.due("15 no piece, least key", LearnedLedge.NONE, ledge.guess(-1000000));
        ledge.remove(31);
        Check.due("15 marked keys guess on", 4, ledge.guess(32));
        Check.due("15 empty", LearnedLedge.NONE, new LearnedLedge().guess(0));
        // The steepest slope there can be over the widest way.
        LearnedLedge steep = with(0, 4);
        steep.appendMany(-1000000, 1, 100);
        Check.due("15 steep", 2000000, steep.guess(1000000));
    }

    private static void looks() {
        LearnedLedge ledge = with(2, 4);
        ledge.appendMany(0, 10, 20);
        // 19 keys up to place 19: the slope is 17/190. Key 100: guess 8, places 6 to 10.
        Check.due("16 slope", 17, ledge.rise(0));
        Check.due("16 guess", 8, ledge.guess(100));
        Check.due("16 key of the row", 3, ledge.looks(100));
        Check.due("16 no piece", 0, ledge.looks(-1));
        Check.due("16 far behind all", 0, ledge.looks(1000000));
        // Key 0: guess 0, places 0 to 2: 1, then 0.
        Check.due("16 first key", 2, ledge.looks(0));
        Check.due("16 empty", 0, new LearnedLedge().looks(0));
        // Guess 17 for 190: low 15 and high 20; the keys at 17, 19 and 18 are looked at.
        Check.due("16 last key", 3, ledge.looks(190));
        LearnedLedge exact = with(0, 4);
        exact.appendMany(0, 10, 20);
        Check.due("16 bound 0", 1, exact.looks(100));
        // Piece 0 has the places 0 to 2; the looks at 4 stay in it, though g + b + 1 is 4 there.
        LearnedLedge two = with(1, 4, 0, 1, 2, 1000, 2000, 3000);
        Check.due("16 two pieces", 2, two.pieces());
        Check.due("16 ends with the piece", 1, two.looks(4));
        Check.due("16 guess behind the piece", 499, two.guess(999));
        Check.due("16 low is not behind the piece", 0, two.looks(999));
    }

    private static void worstError() {
        LearnedLedge ledge = with(2, 4);
        Check.due("17 no keys", 0, ledge.worstError());
        ledge.insert(7);
        Check.due("17 the buffer has no places", 0, ledge.worstError());
        ledge = with(2, 4, 0, 1, 2);
        Check.due("17 slope 0", 2, ledge.worstError());
        ledge.remove(2);
        Check.due("17 marked ones too", 2, ledge.worstError());
        ledge.rebuild(0, 4);
        Check.due("17 bound 0", 0, ledge.worstError());
        // 0 1 and 1000 by 1/1000 with bound 1: 1 is guessed 0.
        ledge = with(1, 4, 0, 1, 1000);
        Check.due("17 bound 1", 1, ledge.worstError());
        ledge = with(20, 4);
        ledge.appendMany(0, 1, 21);
        Check.due("17 bound 20", 20, ledge.worstError());
    }

    private static void piecesAndStarts() {
        LearnedLedge ledge = with(0, 4, 0, 10, 11, 12, 20);
        ledge.remove(11);
        Check.due("18 pieces", 3, ledge.pieces());
        Check.due("19 start", 0, ledge.start(0));
        Check.due("19 start", 2, ledge.start(1));
        Check.due("19 start", 4, ledge.start(2));
        Check.due("20 first key", 0, ledge.firstKey(0));
        Check.due("20 first key, marked", 11, ledge.firstKey(1));
        Check.due("20 first key", 20, ledge.firstKey(2));
        Check.due("18 none", 0, new LearnedLedge().pieces());
    }

    private static void riseAndRun() {
        LearnedLedge ledge = with(0, 4, -10);
        Check.due("21 one key", 0, ledge.rise(0));
        Check.due("22 one key", 1, ledge.run(0));
        ledge.append(-4);
        Check.due("21 two keys", 1, ledge.rise(0));
        Check.due("22 two keys", 6, ledge.run(0));
        // 10 keys, 6 apart, at bound 1: the last one asks for 8/54 = 4/27.
        LearnedLedge ten = with(1, 4);
        ten.appendMany(0, 6, 10);
        Check.due("21 lowest terms", 4, ten.rise(0));
        Check.due("22 lowest terms", 27, ten.run(0));
        // The greatest of the least slopes is not the last one's: 0 1 2 3 ask for 1, 2 and 3 less 1.
        LearnedLedge bent = with(1, 4, 0, 1, 2, 3, 5);
        Check.due("21 the greatest demand", 2, bent.rise(0));
        Check.due("22 the greatest demand", 3, bent.run(0));
        LearnedLedge flat = with(2, 4, 0, 1, 2);
        Check.due("21 slope 0", 0, flat.rise(0));
        Check.due("22 slope 0", 1, flat.run(0));
        LearnedLedge wide = with(0, 4, -1000000, 1000000);
        Check.due("22 the widest", 2000000, wide.run(0));
    }

    private static void slopesAndCommonest() {
        LearnedLedge ledge = with(0, 4);
        Check.due("23 none", 0, ledge.slopes());
        Check.due("24 none", LearnedLedge.NONE, ledge.commonest());
        // 1/10, 1/5, 1/5, 1/10, 1/5: pieces 0 to 4.
        int[] keys = {0, 10, 11, 16, 17, 22, 23, 33, 34};
        for (int key : keys) {
            ledge.append(key);
        }
        Check.due("23 with a single key", 3, ledge.slopes());
        Check.due("24 of two the first one's", 0, ledge.commonest());
        ledge.append(39);
        Check.due("23 two", 2, ledge.slopes());
        Check.due("24 three of five", 1, ledge.commonest());
        Check.due("24 pieces", 5, ledge.pieces());
        // 1/6, 1/7 and 0/1.
        LearnedLedge unlike = with(0, 4, 0, 6, 7, 14, 15);
        Check.due("23 unlike runs", 3, unlike.slopes());
        Check.due("24 each once", 0, unlike.commonest());
        // At bound 1 the first piece asks for 1/9, the next one, from 1000 on, for 2/9 by its 1009.
        unlike = with(1, 4, 0, 5, 9, 1000, 1004, 1005, 1009);
        Check.due("23 pieces", 2, unlike.pieces());
        Check.due("23 the same run", unlike.run(0), unlike.run(1));
        Check.due("23 unlike rises", 2, unlike.slopes());
    }

    private static void bufferedMarkedRowSize() {
        LearnedLedge ledge = with(2, 4, 0, 10, 20);
        Check.due("25 none", 0, ledge.buffered());
        Check.due("26 none", 0, ledge.marked());
        Check.due("27 row", 3, ledge.rowSize());
        ledge.insert(5);
        ledge.insert(6);
        ledge.remove(10);
        ledge.remove(20);
        Check.due("25 two", 2, ledge.buffered());
        Check.due("26 two", 2, ledge.marked());
        Check.due("27 marked too", 3, ledge.rowSize());
        ledge.remove(5);
        ledge.insert(20);
        Check.due("25 one left", 1, ledge.buffered());
        Check.due("26 one mark left", 1, ledge.marked());
        ledge.merge();
        Check.due("25 merged", 0, ledge.buffered());
        Check.due("26 dropped", 0, ledge.marked());
        Check.due("27 merged", 3, ledge.rowSize());
    }

    private static void mergesSplitsJoins() {
        LearnedLedge ledge = with(0, 1, 0, 10, 20);
        Check.due("28 none", 0, ledge.merges());
        Check.due("29 none", 0, ledge.splits());
        Check.due("30 none", 0, ledge.joins());
        // 0 5 10 | 20, then 0 5 10 15 and 20 joined.
        ledge.insert(5);
        Check.due("28 by insert", 1, ledge.merges());
        Check.due("29 one", 1, ledge.splits());
        Check.due("30 still none", 0, ledge.joins());
        ledge.insert(15);
        Check.due("28 twice", 2, ledge.merges());
        Check.due("29 no new one", 1, ledge.splits());
        Check.due("30 joined", 1, ledge.joins());
        ledge.merge();
        Check.due("28 by merge", 3, ledge.merges());
        ledge.remove(10);
        ledge.merge();
        Check.due("29 sums up", 2, ledge.splits());
        ledge.rebuild(0, 1);
        ledge.append(30);
        Check.due("28 all", 4, ledge.merges());
        Check.due("29 all", 2, ledge.splits());
        Check.due("30 all", 1, ledge.joins());
    }
}
