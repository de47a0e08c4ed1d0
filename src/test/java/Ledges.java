/** Ledges that several tests begin with. */
final class Ledges {
    private Ledges() {
    }

    static LearnedLedge with(int bound, int room, int... keys) {
        LearnedLedge ledge = new LearnedLedge();
        ledge.rebuild(bound, room);
        for (int key : keys) {
            ledge.append(key);
        }
        return ledge;
    }

    /** The row 0 10 20, of which 10 is marked, and 25 in the buffer. */
    static LearnedLedge mixed() {
        LearnedLedge ledge = with(2, 4, 0, 10, 20);
        ledge.insert(25);
        ledge.remove(10);
        return ledge;
    }

    /** The even keys from 0 on in the row. */
    static LearnedLedge evens(int many) {
        LearnedLedge ledge = with(2, 16);
        for (int first = 0; first < many; first += 100) {
            ledge.appendMany(2 * first, 2, Math.min(100, many - first));
        }
        return ledge;
    }

    static LearnedLedge oneShort() {
        return evens(255);
    }

    static LearnedLedge fullByRow() {
        return evens(256);
    }

    /** 255 keys in the row and the key 1 in the buffer. */
    static LearnedLedge fullByBuffer() {
        LearnedLedge full = evens(255);
        full.insert(1);
        return full;
    }

    /** 256 keys in the row, of which 4 and 510, the last one, are marked. */
    static LearnedLedge fullByMarks() {
        LearnedLedge full = evens(256);
        full.remove(4);
        full.remove(510);
        return full;
    }
}
