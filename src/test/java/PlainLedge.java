import java.util.ArrayList;
import java.util.List;
import java.util.NoSuchElementException;
import java.util.TreeSet;

/**
 * The document once more, in the slowest and plainest form, to compare answers with: pieces are
 * lists of keys, and whether keys fit is asked of every key anew.
 */
final class PlainLedge {
    private List<List<Integer>> pieces = new ArrayList<>();
    private final TreeSet<Integer> markedKeys = new TreeSet<>();
    private final TreeSet<Integer> late = new TreeSet<>();
    private int bound = 2;
    private int room = 4;
    private int merges = 0;
    private int splits = 0;
    private int joins = 0;

    // ---- keys that come and go

    int append(int key) {
        inRange(key);
        follow(key, 1);
        addLast(pieces, key);
        return pieces.size();
    }

    int appendMany(int first, int step, int many) {
        if (step < 1 || step > 10000 || many < 1 || many > 100) {
            throw new IllegalArgumentException();
        }
        for (long i = 0; i < many; i++) {
            inRange(first + step * i);
        }
        follow(first, many);
        for (int i = 0; i < many; i++) {
            addLast(pieces, first + step * i);
        }
        return pieces.size();
    }

    int insert(int key) {
        inRange(key);
        if (there().contains(key)) {
            throw new IllegalStateException();
        }
        if (markedKeys.remove(key)) {
            return late.size();
        }
        if (row().size() + late.size() >= 256) {
            throw new IllegalStateException();
        }
        late.add(key);
        if (late.size() == room) {
            merge();
        }
        return late.size();
    }

    int remove(int key) {
        if (!there().contains(key)) {
            throw new NoSuchElementException();
        }
        if (!late.remove(key)) {
            markedKeys.add(key);
        }
        return there().size();
    }

    int merge() {
        List<List<Integer>> next = new ArrayList<>();
        for (TreeSet<Integer> group : groups()) {
            List<Integer> kept = new ArrayList<>();
            for (int key : group) {
                if (!markedKeys.contains(key)) {
                    kept.add(key);
                }
            }
            List<List<Integer>> cut = pieces.contains(kept) ? List.of(kept) : cut(kept);
            next.addAll(cut);
            splits += Math.max(0, cut.size() - 1);
        }
        pieces = next;
        markedKeys.clear();
        late.clear();
        join();
        merges++;
        return pieces.size();
    }

    int rebuild(int newBound, int newRoom) {
        if (newBound < 0 || newBound > 20 || newRoom < 1 || newRoom > 16) {
            throw new IllegalArgumentException();
        }
        List<Integer> keys = new ArrayList<>(there());
        bound = newBound;
        room = newRoom;
        markedKeys.clear();
        late.clear();
        pieces = cut(keys);
        return pieces.size();
    }

    // ---- keys in their order

    int size() {
        return there().size();
    }

    boolean contains(int key) {
        return there().contains(key);
    }

    int rank(int key) {
        return there().headSet(key).size();
    }

    int select(int place) {
        List<Integer> keys = new ArrayList<>(there());
        if (place < 0 || place >= keys.size()) {
            throw new IndexOutOfBoundsException();
        }
        return keys.get(place);
    }

    int ceiling(int key) {
        Integer found = there().ceiling(key);
        if (found == null) {
            throw new NoSuchElementException();
        }
        return found;
    }

    int count(int low, int high) {
        int found = 0;
        for (int key : there()) {
            found += key >= low && key <= high ? 1 : 0;
        }
        return found;
    }

    // ---- looking up in the row

    int place(int key) {
        int less = 0;
        for (int other : row()) {
            less += other < key ? 1 : 0;
        }
        return less;
    }

    long guess(int key) {
        inRange(key);
        int piece = pieceOf(key);
        if (piece < 0) {
            return -1;
        }
        long[] slope = slopeOf(pieces.get(piece));
        long width = (long) key - pieces.get(piece).get(0);
        return start(piece) + slope[0] * width / slope[1];
    }

    int looks(int key) {
        inRange(key);
        int piece = pieceOf(key);
        if (piece < 0) {
            return 0;
        }
        long p = start(piece);
        long r = p + pieces.get(piece).size();
        long g = guess(key);
        long low = Math.max(p, g - bound);
        if (low > r) {
            low = r;
        }
        long high = Math.min(r, g + bound + 1);
        int looked = 0;
        while (low < high) {
            int middle = (int) ((low + high) / 2);
            looked++;
            if (row().get(middle) < key) {
                low = middle + 1;
            } else {
                high = middle;
            }
        }
        return looked;
    }

    int worstError() {
        long worst = 0;
        List<Integer> row = row();
        for (int place = 0; place < row.size(); place++) {
            worst = Math.max(worst, Math.abs(place - guess(row.get(place))));
        }
        return (int) worst;
    }

    // ---- pieces

    int pieces() {
        return pieces.size();
    }

    int start(int piece) {
        isPiece(piece);
        int place = 0;
        for (List<Integer> ahead : pieces.subList(0, piece)) {
            place += ahead.size();
        }
        return place;
    }

    int firstKey(int piece) {
        isPiece(piece);
        return pieces.get(piece).get(0);
    }

    int rise(int piece) {
        isPiece(piece);
        return (int) slopeOf(pieces.get(piece))[0];
    }

    int run(int piece) {
        isPiece(piece);
        return (int) slopeOf(pieces.get(piece))[1];
    }

    int slopes() {
        TreeSet<String> unlike = new TreeSet<>(slopeTexts());
        return unlike.size();
    }

    int commonest() {
        int most = 0;
        int best = -1;
        List<String> texts = slopeTexts();
        for (String text : texts) {
            int alike = java.util.Collections.frequency(texts, text);
            if (alike > most) {
                most = alike;
                best = texts.indexOf(text);
            }
        }
        return best;
    }

    // ---- the buffer and its work

    int buffered() {
        return late.size();
    }

    int marked() {
        return markedKeys.size();
    }

    int rowSize() {
        return row().size();
    }

    int merges() {
        return merges;
    }

    int splits() {
        return splits;
    }

    int joins() {
        return joins;
    }

    // ---- the terms

    private static void inRange(long key) {
        if (key < -1000000 || key > 1000000) {
            throw new IllegalArgumentException();
        }
    }

    private void isPiece(int piece) {
        if (piece < 0 || piece >= pieces.size()) {
            throw new IndexOutOfBoundsException();
        }
    }

    private void follow(int first, int many) {
        List<Integer> all = row();
        all.addAll(late);
        boolean room = all.size() + many <= 256;
        for (int key : all) {
            room &= key < first;
        }
        if (!room) {
            throw new IllegalStateException();
        }
    }

    private List<Integer> row() {
        List<Integer> keys = new ArrayList<>();
        for (List<Integer> piece : pieces) {
            keys.addAll(piece);
        }
        return keys;
    }

    private TreeSet<Integer> there() {
        TreeSet<Integer> keys = new TreeSet<>(row());
        keys.removeAll(markedKeys);
        keys.addAll(late);
        return keys;
    }

    private int pieceOf(int key) {
        int last = -1;
        for (int piece = 0; piece < pieces.size(); piece++) {
            if (pieces.get(piece).get(0) <= key) {
                last = piece;
            }
        }
        return last;
    }

    private List<TreeSet<Integer>> groups() {
        List<TreeSet<Integer>> groups = new ArrayList<>();
        for (List<Integer> piece : pieces) {
            groups.add(new TreeSet<>(piece));
        }
        if (groups.isEmpty()) {
            groups.add(new TreeSet<>());
        }
        for (int key : late) {
            groups.get(Math.max(0, pieceOf(key))).add(key);
        }
        return groups;
    }

    private List<List<Integer>> cut(List<Integer> keys) {
        List<List<Integer>> cut = new ArrayList<>();
        for (int key : keys) {
            addLast(cut, key);
        }
        return cut;
    }

    private void addLast(List<List<Integer>> to, int key) {
        if (!to.isEmpty()) {
            List<Integer> longer = new ArrayList<>(to.get(to.size() - 1));
            longer.add(key);
            if (slopeOf(longer) != null) {
                to.set(to.size() - 1, longer);
                return;
            }
        }
        to.add(new ArrayList<>(List.of(key)));
    }

    private void join() {
        int piece = 0;
        while (piece + 1 < pieces.size()) {
            List<Integer> both = new ArrayList<>(pieces.get(piece));
            both.addAll(pieces.get(piece + 1));
            if (slopeOf(both) == null) {
                piece++;
            } else {
                pieces.set(piece, both);
                pieces.remove(piece + 1);
                joins++;
            }
        }
    }

    /** The least slope that no key forbids from below, if none forbids it from above; otherwise null. */
    private long[] slopeOf(List<Integer> keys) {
        long rise = 0;
        long run = 1;
        for (int q = 1; q < keys.size(); q++) {
            long width = (long) keys.get(q) - keys.get(0);
            if ((q - bound) * run > rise * width) {
                rise = q - bound;
                run = width;
            }
        }
        for (int q = 0; q < keys.size(); q++) {
            long width = (long) keys.get(q) - keys.get(0);
            if (Math.abs(rise * width - q * run) > bound * run) {
                return null;
            }
        }
        long common = java.math.BigInteger.valueOf(rise).gcd(java.math.BigInteger.valueOf(run)).longValue();
        return new long[] {rise / common, run / common};
    }

    private List<String> slopeTexts() {
        List<String> texts = new ArrayList<>();
        for (List<Integer> piece : pieces) {
            long[] slope = slopeOf(piece);
            texts.add(slope[0] + "/" + slope[1]);
        }
        return texts;
    }
}
