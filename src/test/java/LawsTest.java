import java.util.ArrayList;
import java.util.List;
import java.util.TreeSet;

/**
 * The sentences of the document that hold for every row, asked of many rows, with the sentence above
 * each: nothing but the public face and the keys that were given is used. Each ledge is asked at most
 * 512 times, and the calls are drawn by a fixed rule of numbers, so that each time they are the same.
 */
public final class LawsTest {
    private static final int RUNS = 2000;
    private static final int CHANGES = 100;
    private static final int MOST_KEYS = 60;
    private static final int MOST_CALLS = 512;
    private static final int GREATEST = 1000000;

    private final LearnedLedge ledge = new LearnedLedge();
    private final TreeSet<Integer> there = new TreeSet<>();
    private final int run;
    private final int reach;
    private int bound;
    private int calls;
    private long seed;
    private List<Integer> row;
    private int[] starts;
    private int[] rises;
    private int[] runs;

    private LawsTest(int run) {
        this.run = run;
        this.seed = run * 104729L + 5;
        int[] reaches = {60, 90, 200, 1000, 30000, 1000000};
        this.reach = reaches[run % reaches.length];
    }

    public static void main(String[] args) {
        for (int run = 0; run < RUNS; run++) {
            new LawsTest(run).go();
        }
        Check.end("LawsTest");
    }

    private void go() {
        bound = draw(3) == 0 ? draw(21) : draw(3);
        ledge.rebuild(bound, 1 + draw(16));
        for (int change = 0; change < CHANGES; change++) {
            change();
        }
        calls = 1 + CHANGES;
        boolean merged = draw(3) > 0;
        if (merged) {
            ledge.merge();
        } else {
            bound = draw(2) == 0 ? bound : draw(21);
            ledge.rebuild(bound, 1 + draw(16));
        }
        calls++;
        row = new ArrayList<>(there);
        allInTheRow();
        readPieces();
        piecesFollowOneAnother();
        slopesArePossible();
        slopesAreTheLeast();
        slopesInLowestTerms();
        if (merged) {
            neighboursDoNotFit();
        } else {
            piecesTakeWhatTheyCan();
        }
        guessesWithinTheBound();
        halvingFindsThePlace();
        alikeAndUnlike();
        law("asked at most 512 times", calls <= MOST_CALLS);
    }

    private void change() {
        int key = draw(2 * reach + 1) - reach;
        if (there.contains(key)) {
            ledge.remove(key);
            there.remove(key);
        } else if (there.size() > 5 && (there.size() >= MOST_KEYS || draw(5) < 2)) {
            int gone = new ArrayList<>(there).get(draw(there.size()));
            ledge.remove(gone);
            there.remove(gone);
        } else {
            ledge.insert(key);
            there.add(key);
        }
    }

    private void law(String what, boolean holds) {
        Check.due("run " + run + ", " + what, 1, holds ? 1 : 0);
    }

    /** "The keys that are marked are dropped", "The buffer is empty then", "into the row, without marks". */
    private void allInTheRow() {
        Check.due("run " + run + ", row", row.size(), ledge.rowSize());
        Check.due("run " + run + ", there", row.size(), ledge.size());
        Check.due("run " + run + ", marked", 0, ledge.marked());
        Check.due("run " + run + ", buffered", 0, ledge.buffered());
        calls += 4;
    }

    private void readPieces() {
        int many = ledge.pieces();
        starts = new int[many];
        rises = new int[many];
        runs = new int[many];
        for (int piece = 0; piece < many; piece++) {
            starts[piece] = ledge.start(piece);
            rises[piece] = ledge.rise(piece);
            runs[piece] = ledge.run(piece);
        }
        calls += 1 + 3 * many;
    }

    /** "The row is cut into pieces, of at least one key each, that follow one another; they are numbered from 0." */
    private void piecesFollowOneAnother() {
        law("pieces where there are keys", starts.length > 0 == row.size() > 0);
        for (int piece = 0; piece < starts.length; piece++) {
            law("the first piece begins the row", piece > 0 || starts[piece] == 0);
            law("piece " + piece + " has a key", starts[piece] < end(piece));
            Check.due("run " + run + ", first key of " + piece, first(piece), ledge.firstKey(piece));
        }
        calls += starts.length;
    }

    /** "the difference of p + s * (k - f) and q is at most the bound." */
    private void slopesArePossible() {
        for (int piece = 0; piece < starts.length; piece++) {
            for (int place = starts[piece]; place < end(piece); place++) {
                law("slope of " + piece + " at " + place, Math.abs(above(piece, place)) <= (long) bound * runs[piece]);
            }
        }
    }

    /** "The slope of a piece is the least one that is possible": it is 0, or some key allows no lesser one. */
    private void slopesAreTheLeast() {
        for (int piece = 0; piece < starts.length; piece++) {
            boolean least = rises[piece] == 0;
            for (int place = starts[piece]; place < end(piece); place++) {
                least |= above(piece, place) == -(long) bound * runs[piece] && place > starts[piece];
            }
            law("slope of " + piece + " is the least", least);
        }
    }

    /** "in lowest terms", "above 0", "0 if the slope is 0", "1 if the slope is 0." */
    private void slopesInLowestTerms() {
        for (int piece = 0; piece < starts.length; piece++) {
            law("slope of " + piece + " is at least 0", rises[piece] >= 0 && runs[piece] > 0);
            for (int both = 2; both <= MOST_KEYS; both++) {
                law("slope of " + piece + " by " + both, rises[piece] % both != 0 || runs[piece] % both != 0
                        || rises[piece] == 0 && runs[piece] == 1);
            }
        }
    }

    /** "if the keys of a piece and those of the next one, together, fit one piece, both are joined to one". */
    private void neighboursDoNotFit() {
        for (int piece = 0; piece + 1 < starts.length; piece++) {
            law("pieces " + piece + " and the next", !fit(starts[piece], end(piece + 1)));
        }
    }

    /** "the next piece begins with the first key that it could not take, and so on." */
    private void piecesTakeWhatTheyCan() {
        for (int piece = 0; piece + 1 < starts.length; piece++) {
            law("piece " + piece + " and the next key", !fit(starts[piece], end(piece) + 1));
        }
    }

    /** "guesses the place of a key with at most a told error"; "no key is farther from its guess than the bound." */
    private void guessesWithinTheBound() {
        long worst = 0;
        for (int piece = 0; piece < starts.length; piece++) {
            for (int place = starts[piece]; place < end(piece); place++) {
                long guess = ledge.guess(row.get(place));
                long due = place + Math.floorDiv(above(piece, place), (long) runs[piece]);
                Check.due("run " + run + ", guess at " + place, due, guess);
                worst = Math.max(worst, Math.abs(guess - place));
            }
        }
        law("no key farther than the bound", worst <= bound);
        Check.due("run " + run + ", worst error", worst, ledge.worstError());
        calls += row.size() + 1;
    }

    /** "(Then low is the place.)", for keys of the row and for others. */
    private void halvingFindsThePlace() {
        for (int look = 0; look < MOST_KEYS / 2 && !row.isEmpty(); look++) {
            int beside = row.get(draw(row.size())) + draw(3) - 1;
            int key = Math.min(GREATEST, Math.max(first(0), beside));
            int piece = 0;
            while (piece + 1 < starts.length && first(piece + 1) <= key) {
                piece++;
            }
            long guess = ledge.guess(key);
            long low = Math.min(end(piece), Math.max(starts[piece], guess - bound));
            long high = Math.min(end(piece), guess + bound + 1);
            int looked = 0;
            while (low < high) {
                int middle = (int) ((low + high) / 2);
                looked++;
                low = row.get(middle) < key ? middle + 1 : low;
                high = low > middle ? high : middle;
            }
            Check.due("run " + run + ", low is the place of " + key, ledge.place(key), low);
            Check.due("run " + run + ", looks for " + key, looked, ledge.looks(key));
            calls += 3;
        }
    }

    /** "how many unlike slopes the pieces have"; "the first piece with the slope that most pieces have". */
    private void alikeAndUnlike() {
        List<String> slopes = new ArrayList<>();
        for (int piece = 0; piece < starts.length; piece++) {
            slopes.add(rises[piece] + "/" + runs[piece]);
        }
        Check.due("run " + run + ", slopes", slopes.stream().distinct().count(), ledge.slopes());
        int best = ledge.commonest();
        calls += 2;
        law("NONE without pieces alone", best == LearnedLedge.NONE == slopes.isEmpty());
        for (int piece = 0; piece < slopes.size() && best != LearnedLedge.NONE; piece++) {
            long more = many(slopes, piece) - many(slopes, best);
            boolean comesFirst = slopes.indexOf(slopes.get(piece)) >= best;
            law("commonest " + best + " beside " + piece, more < 0 || more == 0 && comesFirst);
        }
    }

    private static long many(List<String> slopes, int piece) {
        return slopes.stream().filter(slopes.get(piece)::equals).count();
    }

    private int first(int piece) {
        return row.get(starts[piece]);
    }

    private int end(int piece) {
        return piece + 1 < starts.length ? starts[piece + 1] : row.size();
    }

    /** How far p + s * (k - f) is above the place q of the key k, times the slope's denominator. */
    private long above(int piece, int place) {
        long width = (long) row.get(place) - first(piece);
        return rises[piece] * width - (long) (place - starts[piece]) * runs[piece];
    }

    /** Whether some slope is possible: no key asks for a steeper one than another one allows. */
    private boolean fit(int from, int to) {
        for (int asks = from + 1; asks < to; asks++) {
            for (int allows = from + 1; allows < to; allows++) {
                long wide = (long) row.get(asks) - row.get(from);
                long other = (long) row.get(allows) - row.get(from);
                if ((asks - from - bound) * other > (allows - from + bound) * wide) {
                    return false;
                }
            }
        }
        return true;
    }

    private int draw(int below) {
        seed = seed * 6364136223846793005L + 1442695040888963407L;
        return (int) ((seed >>> 33) % below);
    }
}
