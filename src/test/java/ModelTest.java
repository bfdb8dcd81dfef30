import java.util.ArrayList;
import java.util.Comparator;
import java.util.List;
import java.util.Map;
import java.util.TreeMap;
import java.util.TreeSet;

/**
 * Many runs of calls, each answer compared with a second program that follows the document's words
 * step by step over lists, and makes everything anew for every question.
 */
public final class ModelTest {
    private static final int RUNS = 3000;
    private static final int CALLS = 512;
    private static final int[] ODD = {-1, 200, 201, 1000000000, 1000000001, Integer.MIN_VALUE, Integer.MAX_VALUE};

    private static int wrong = 0;
    private static long seed = 20261116L;

    private record Way(int from, int to, long count, boolean falls) {
    }

    private static final class Model {
        private int n = 1;
        private final TreeSet<Integer> hot = new TreeSet<>();
        private final Map<List<Integer>, Way> ways = new TreeMap<>(
                Comparator.<List<Integer>>comparingInt(k -> k.get(0)).thenComparingInt(k -> k.get(1)));

        boolean size(int blocks) {
            if (blocks < 1 || blocks > 200) {
                return false;
            }
            n = blocks;
            hot.clear();
            ways.clear();
            return true;
        }

        boolean is(int b) {
            return 0 <= b && b < n;
        }

        boolean heat(int b, boolean on) {
            if (!is(b)) {
                return false;
            }
            if (on) {
                hot.add(b);
            } else {
                hot.remove(b);
            }
            return true;
        }

        long way(int u, int v, int count, boolean falls) {
            if (!is(u) || !is(v)) {
                return -1;
            }
            if (count < 0 || count > 1000000000) {
                return -2;
            }
            long sum = count(u, v) + count;
            ways.put(List.of(u, v), new Way(u, v, sum, falls));
            return sum;
        }

        long count(int u, int v) {
            Way w = ways.get(List.of(u, v));
            return w == null ? 0 : w.count();
        }

        long weigh(List<Integer> row) {
            long sum = 0;
            for (int k = 1; k < row.size(); k++) {
                Way w = ways.get(List.of(row.get(k - 1), row.get(k)));
                sum += w != null && w.falls() ? w.count() : 0;
            }
            return sum;
        }

        List<Integer> all() {
            List<Integer> row = new ArrayList<>();
            for (int b = 0; b < n; b++) {
                row.add(b);
            }
            return row;
        }

        List<List<Integer>> chains() {
            List<List<Integer>> chains = new ArrayList<>();
            for (int b : hot) {
                chains.add(new ArrayList<>(List.of(b)));
            }
            List<Way> looked = new ArrayList<>(ways.values());
            looked.removeIf(w -> !w.falls() || w.count() == 0 || !hot.contains(w.from()) || !hot.contains(w.to()));
            looked.sort(Comparator.comparingLong((Way w) -> -w.count())
                    .thenComparingInt(Way::from).thenComparingInt(Way::to));
            for (Way w : looked) {
                List<Integer> head = holding(chains, w.from());
                List<Integer> tail = holding(chains, w.to());
                boolean goesOn = head.get(head.size() - 1) == w.from() && tail.get(0) == w.to();
                if (head != tail && goesOn && w.to() != 0) {
                    head.addAll(tail);
                    chains.removeIf(c -> c == tail);
                }
            }
            return chains;
        }

        List<Integer> holding(List<List<Integer>> chains, int b) {
            for (List<Integer> chain : chains) {
                if (chain.contains(b)) {
                    return chain;
                }
            }
            return List.of();
        }

        List<Integer> rowByChains() {
            List<List<Integer>> left = chains();
            List<Integer> row = new ArrayList<>();
            if (left.isEmpty()) {
                return row;
            }
            List<Integer> start = holding(left, hot.contains(0) ? 0 : hot.first());
            while (start != null) {
                List<Integer> placed = start;
                row.addAll(placed);
                left.removeIf(c -> c == placed);
                start = null;
                for (List<Integer> chain : left) {
                    if (start == null || isBetter(chain, start, row)) {
                        start = chain;
                    }
                }
            }
            return row;
        }

        boolean isBetter(List<Integer> a, List<Integer> b, List<Integer> row) {
            long sumA = sum(a, row);
            long sumB = sum(b, row);
            return sumA > sumB || sumA == sumB && least(a) < least(b);
        }

        int least(List<Integer> chain) {
            return new TreeSet<>(chain).first();
        }

        long sum(List<Integer> chain, List<Integer> row) {
            long sum = 0;
            for (int b : chain) {
                for (int p : row) {
                    sum += count(b, p) + count(p, b);
                }
            }
            return sum;
        }

        List<Integer> row() {
            List<Integer> byChains = rowByChains();
            List<Integer> byNumber = new ArrayList<>(hot);
            return weigh(byChains) > weigh(byNumber) ? byChains : byNumber;
        }

        int row(int k) {
            List<Integer> row = row();
            return 0 <= k && k < row.size() ? row.get(k) : -1;
        }

        long weight(int what) {
            return switch (what) {
                case 0 -> weigh(row());
                case 1 -> weigh(new ArrayList<>(hot));
                case 2 -> weigh(all());
                case 3 -> weigh(rowByChains());
                default -> -1;
            };
        }

        int chain(int b) {
            return hot.contains(b) ? holding(chains(), b).get(0) : -1;
        }
    }

    // A plain row of numbers of our own: every run of the tests makes the same calls.
    private static int below(int bound) {
        seed = seed * 6364136223846793005L + 1442695040888963407L;
        return (int) ((seed >>> 33) % bound);
    }

    private static boolean oneIn(int times) {
        return below(times) == 0;
    }

    private static int block(int n) {
        if (oneIn(40)) {
            return oneIn(2) ? n : ODD[below(ODD.length)];
        }
        return below(n);
    }

    private static int told(int most) {
        return oneIn(40) ? ODD[below(ODD.length)] : below(most);
    }

    private static boolean due(int run, String call, long got, long want) {
        if (got == want) {
            return true;
        }
        wrong++;
        System.out.println("run " + run + ": " + call + " answered " + got + ", due is " + want);
        return false;
    }

    private static boolean due(int run, String call, boolean got, boolean want) {
        return due(run, call, got ? 1L : 0L, want ? 1L : 0L);
    }

    private static boolean change(int run, BlockRows x, Model model, int most) {
        int kind = below(100);
        if (kind == 0 && oneIn(4)) {
            int n = oneIn(2) ? ODD[below(ODD.length)] : model.n;
            return due(run, "size(" + n + ")", x.size(n), model.size(n));
        }
        if (kind < 30) {
            int b = block(model.n);
            boolean hot = !oneIn(5);
            return due(run, "heat(" + b + ", " + hot + ")", x.heat(b, hot), model.heat(b, hot));
        }
        int u = block(model.n);
        int v = block(model.n);
        int count = told(most);
        boolean falls = !oneIn(4);
        String call = "way(" + u + ", " + v + ", " + count + ", " + falls + ")";
        return due(run, call, x.way(u, v, count, falls), model.way(u, v, count, falls));
    }

    private static boolean ask(int run, BlockRows x, Model model) {
        int b = block(model.n);
        switch (below(5)) {
            case 0:
                int v = block(model.n);
                return due(run, "count(" + b + ", " + v + ")", x.count(b, v), model.count(b, v));
            case 1:
                return due(run, "length()", x.length(), model.hot.size());
            case 2:
                return due(run, "row(" + b + ")", x.row(b), model.row(b));
            case 3:
                int what = below(6) - 1;
                return due(run, "weight(" + what + ")", x.weight(what), model.weight(what));
            default:
                return due(run, "chain(" + b + ")", x.chain(b), model.chain(b));
        }
    }

    private static void wholeRow(int run, BlockRows x, Model model) {
        List<Integer> want = model.row();
        for (int k = 0; k < want.size(); k++) {
            due(run, "row(" + k + ") at the end", x.row(k), want.get(k));
        }
    }

    private static void run(int run) {
        BlockRows x = new BlockRows();
        Model model = new Model();
        int n = oneIn(30) ? 1 + below(200) : 1 + below(9);
        int most = oneIn(3) ? 1000000001 : 1 + below(6);
        int changes = 1 + below(8);
        boolean same = due(run, "size(" + n + ")", x.size(n), model.size(n));
        // A call heats one block at most, so there are calls left to ask for the whole row.
        for (int call = 1; call + 1 < CALLS - model.hot.size() && same; call++) {
            same = call < n * 2 || below(9) < changes ? change(run, x, model, most) : ask(run, x, model);
        }
        if (same) {
            wholeRow(run, x, model);
        }
    }

    public static void main(String[] args) {
        for (int run = 0; run < RUNS; run++) {
            run(run);
        }
        System.out.println(wrong == 0 ? "all answers are as due" : wrong + " answers are not as due");
        if (wrong != 0) {
            System.exit(1);
        }
    }
}
