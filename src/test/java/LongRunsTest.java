/**
 * Runs of at most 512 calls each, on the ledge and on the plain one, with every answer compared.
 * The calls are drawn by a fixed rule of numbers, so that each time they are the same.
 */
public final class LongRunsTest {
    private static final int RUNS = 3000;
    private static final int CALLS = 512;
    private static final int[] EDGES = {
        Integer.MIN_VALUE, Integer.MIN_VALUE + 1, -1000001, -1000000, -999999, -1, 0, 1,
        999999, 1000000, 1000001, Integer.MAX_VALUE - 1, Integer.MAX_VALUE,
    };

    private final LearnedLedge ledge = new LearnedLedge();
    private final PlainLedge plain = new PlainLedge();
    private final int run;
    private final int reach;
    private long seed;

    private LongRunsTest(int run) {
        this.run = run;
        this.seed = run * 7919L + 17;
        int[] reaches = {12, 40, 150, 600, 3000, 50000, 1000000};
        this.reach = reaches[run % reaches.length];
    }

    public static void main(String[] args) {
        for (int run = 0; run < RUNS; run++) {
            new LongRunsTest(run).go();
        }
        Check.end("LongRunsTest");
    }

    private void go() {
        // Some runs change much, others ask much; some rebuild at the start alone.
        int changes = 20 + draw(70);
        if (run % 3 != 0) {
            change(90, draw(20), 1 + draw(16), 0);
        }
        for (int call = 2; call + 1 < CALLS; call++) {
            if (draw(100) < changes) {
                change(draw(run % 5 == 0 ? 100 : 89), key(), key(), call);
            } else {
                ask(draw(20), key(), key(), call);
            }
        }
    }

    private void change(int kind, int a, int b, int call) {
        if (kind < 15) {
            int last = plain.size() > 0 && draw(10) > 0 ? plain.select(plain.size() - 1) : a;
            int key = draw(4) == 0 ? last : last + 1 + draw(draw(2) == 0 ? 3 : reach);
            same("append(" + key + ")", call, () -> ledge.append(key), () -> plain.append(key));
        } else if (kind < 20) {
            int last = plain.size() > 0 && draw(10) > 0 ? plain.select(plain.size() - 1) : a;
            int first = last + draw(10);
            int step = draw(12) == 0 ? draw(3) * 5000 + draw(3) - 1 : 1 + draw(5);
            int many = draw(12) == 0 ? draw(2) * 100 + draw(3) - 1 : 1 + draw(draw(2) == 0 ? 12 : 60);
            same("appendMany(" + first + ", " + step + ", " + many + ")", call,
                    () -> ledge.appendMany(first, step, many), () -> plain.appendMany(first, step, many));
        } else if (kind < 55) {
            same("insert(" + a + ")", call, () -> ledge.insert(a), () -> plain.insert(a));
        } else if (kind < 85) {
            int key = draw(3) > 0 && plain.size() > 0 ? plain.select(draw(plain.size())) : a;
            same("remove(" + key + ")", call, () -> ledge.remove(key), () -> plain.remove(key));
        } else if (kind < 89) {
            same("merge()", call, ledge::merge, plain::merge);
        } else {
            int bound = kind < 95 ? draw(22) - 1 : a;
            int room = kind < 97 ? draw(18) : b;
            int newBound = kind == 90 ? a : bound;
            int newRoom = kind == 90 ? b : room;
            same("rebuild(" + newBound + ", " + newRoom + ")", call,
                    () -> ledge.rebuild(newBound, newRoom), () -> plain.rebuild(newBound, newRoom));
        }
    }

    private void ask(int kind, int a, int b, int call) {
        int index = draw(10) == 0 ? a : draw(plain.pieces() + 2) - 1;
        int place = draw(10) == 0 ? a : draw(plain.size() + 2) - 1;
        switch (kind) {
            case 0 -> same("size()", call, ledge::size, plain::size);
            case 1 -> same("contains(" + a + ")", call,
                    () -> ledge.contains(a) ? 1 : 0, () -> plain.contains(a) ? 1 : 0);
            case 2 -> same("rank(" + a + ")", call, () -> ledge.rank(a), () -> plain.rank(a));
            case 3 -> same("select(" + place + ")", call, () -> ledge.select(place), () -> plain.select(place));
            case 4 -> same("ceiling(" + a + ")", call, () -> ledge.ceiling(a), () -> plain.ceiling(a));
            case 5 -> same("count(" + a + ", " + b + ")", call, () -> ledge.count(a, b), () -> plain.count(a, b));
            case 6 -> same("place(" + a + ")", call, () -> ledge.place(a), () -> plain.place(a));
            case 7 -> same("guess(" + a + ")", call, () -> ledge.guess(a), () -> plain.guess(a));
            case 8 -> same("looks(" + a + ")", call, () -> ledge.looks(a), () -> plain.looks(a));
            case 9 -> same("worstError()", call, ledge::worstError, plain::worstError);
            case 10 -> same("pieces()", call, ledge::pieces, plain::pieces);
            case 11 -> same("start(" + index + ")", call, () -> ledge.start(index), () -> plain.start(index));
            case 12 -> same("firstKey(" + index + ")", call,
                    () -> ledge.firstKey(index), () -> plain.firstKey(index));
            case 13 -> same("rise(" + index + ")", call, () -> ledge.rise(index), () -> plain.rise(index));
            case 14 -> same("run(" + index + ")", call, () -> ledge.run(index), () -> plain.run(index));
            case 15 -> same("slopes()", call, ledge::slopes, plain::slopes);
            case 16 -> same("commonest()", call, ledge::commonest, plain::commonest);
            case 17 -> {
                same("buffered()", call, ledge::buffered, plain::buffered);
                same("marked()", call, ledge::marked, plain::marked);
            }
            case 18 -> {
                same("rowSize()", call, ledge::rowSize, plain::rowSize);
                same("merges()", call, ledge::merges, plain::merges);
            }
            default -> {
                same("splits()", call, ledge::splits, plain::splits);
                same("joins()", call, ledge::joins, plain::joins);
            }
        }
    }

    private void same(String what, int call, Check.Call got, Check.Call want) {
        Check.due("run " + run + ", call " + call + ", " + what, Check.answerOf(want), Check.answerOf(got));
    }

    private int key() {
        return draw(25) == 0 ? EDGES[draw(EDGES.length)] : draw(2 * reach + 1) - reach;
    }

    private int draw(int below) {
        seed = seed * 6364136223846793005L + 1442695040888963407L;
        return (int) ((seed >>> 33) % below);
    }
}
