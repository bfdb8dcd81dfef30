import java.util.Arrays;

/** A row of blocks by how often ways between them are gone. */
public final class BlockRows {

    private static final int MOST_BLOCKS = 200;
    private static final int MOST_WAYS = 1000;
    private static final int MOST_TOLD = 1000000000;
    private static final long MOST_COUNT = 1000000000000000L;

    private static final int NONE = -1;
    private static final long NO_SUCH_BLOCKS = -1L;
    private static final long NO_SUCH_COUNT = -2L;
    private static final long TOO_MANY_WAYS = -3L;
    private static final long NO_SUCH_WEIGHT = -1L;

    private final boolean[] hot = new boolean[MOST_BLOCKS];
    private final Ways ways = new Ways();
    private final Chains chains = new Chains();
    private final Line allByNumber = new Line();
    private final Line hotByNumber = new Line();
    private final Line hotByChains = new Line();
    private long allWeight;
    private long hotWeight;
    private long chainsWeight;
    private int blocks = 1;

    // Many questions follow one change, so the rows are only made anew after a change.
    private boolean stale = true;

    public BlockRows() {
    }

    public boolean size(int n) {
        if (n < 1 || n > MOST_BLOCKS) {
            return false;
        }
        blocks = n;
        for (int b = 0; b < MOST_BLOCKS; b++) {
            hot[b] = false;
        }
        ways.forget();
        stale = true;
        return true;
    }

    public boolean heat(int b, boolean hot) {
        if (!isBlock(b)) {
            return false;
        }
        this.hot[b] = hot;
        stale = true;
        return true;
    }

    public long way(int u, int v, int count, boolean falls) {
        if (!isBlock(u) || !isBlock(v)) {
            return NO_SUCH_BLOCKS;
        }
        if (count < 0 || count > MOST_TOLD) {
            return NO_SUCH_COUNT;
        }
        stale = true;
        return ways.tell(u, v, count, falls);
    }

    public long count(int u, int v) {
        return ways.told(u, v);
    }

    public int length() {
        refresh();
        return hotByNumber.filled;
    }

    public int row(int k) {
        refresh();
        return chainsAreBetter() ? hotByChains.blockAt(k) : hotByNumber.blockAt(k);
    }

    public long weight(int what) {
        refresh();
        switch (what) {
            case 0:
                return chainsAreBetter() ? chainsWeight : hotWeight;
            case 1:
                return hotWeight;
            case 2:
                return allWeight;
            case 3:
                return chainsWeight;
            default:
                return NO_SUCH_WEIGHT;
        }
    }

    public int chain(int b) {
        refresh();
        return isBlock(b) ? chains.firstOf(b) : NONE;
    }

    private boolean isBlock(int b) {
        return b >= 0 && b < blocks;
    }

    // Whatever number is a block in some size; the rows are as long as the greatest size asks.
    private static boolean fitsRows(int b) {
        return b >= 0 && b < MOST_BLOCKS;
    }

    private boolean chainsAreBetter() {
        return chainsWeight > hotWeight;
    }

    private void refresh() {
        if (!stale) {
            return;
        }
        lineUpByNumber();
        chains.start(hotByNumber);
        chains.joinAlong(ways);
        chains.lineUp(hotByNumber, ways, hotByChains);
        allWeight = ways.weigh(allByNumber);
        hotWeight = ways.weigh(hotByNumber);
        chainsWeight = ways.weigh(hotByChains);
        stale = false;
    }

    private void lineUpByNumber() {
        allByNumber.empty();
        hotByNumber.empty();
        for (int b = 0; b < blocks; b++) {
            allByNumber.append(b);
            if (hot[b]) {
                hotByNumber.append(b);
            }
        }
    }

    /** Blocks behind one another, each of them once. */
    private static final class Line {
        private final int[] members = new int[MOST_BLOCKS];
        private final int[] places = new int[MOST_BLOCKS];
        private int filled;

        void empty() {
            filled = 0;
            Arrays.fill(places, NONE);
        }

        void append(int b) {
            if (filled >= MOST_BLOCKS || !fitsRows(b)) {
                return;
            }
            members[filled] = b;
            places[b] = filled;
            filled++;
        }

        int blockAt(int k) {
            return k >= 0 && k < filled ? members[k] : NONE;
        }

        boolean holds(int b) {
            return fitsRows(b) && places[b] != NONE;
        }

        boolean goesOn(int u, int v) {
            return holds(u) && holds(v) && places[v] == places[u] + 1;
        }
    }

    /**
     * The ways, kept in the order in which chains look at them: the greater count first, of equal
     * ones the lesser first block, then the lesser second one.
     */
    private static final class Ways {
        private final int[] from = new int[MOST_WAYS];
        private final int[] to = new int[MOST_WAYS];
        private final long[] counts = new long[MOST_WAYS];
        private final boolean[] falling = new boolean[MOST_WAYS];
        private int known;

        void forget() {
            known = 0;
        }

        long told(int u, int v) {
            int w = find(u, v);
            return w == NONE ? 0L : counts[w];
        }

        long tell(int u, int v, int more, boolean falls) {
            int w = find(u, v);
            if (w == NONE) {
                w = add(u, v);
            }
            if (w == NONE) {
                return TOO_MANY_WAYS;
            }
            long sum = Math.min(MOST_COUNT, counts[w] + more);
            counts[w] = sum;
            falling[w] = falls;
            moveForward(w);
            return sum;
        }

        long weigh(Line line) {
            long sum = 0L;
            for (int w = 0; w < known; w++) {
                if (falling[w] && line.goesOn(from[w], to[w])) {
                    sum += counts[w];
                }
            }
            return sum;
        }

        private int find(int u, int v) {
            for (int w = 0; w < known; w++) {
                if (from[w] == u && to[w] == v) {
                    return w;
                }
            }
            return NONE;
        }

        private int add(int u, int v) {
            if (known >= MOST_WAYS) {
                return NONE;
            }
            int w = known;
            from[w] = u;
            to[w] = v;
            counts[w] = 0L;
            known++;
            return w;
        }

        // A count never sinks, so a way that was told never has to move back.
        private void moveForward(int start) {
            for (int w = start; w > 0 && isBefore(w, w - 1); w--) {
                swap(w, w - 1);
            }
        }

        private boolean isBefore(int a, int b) {
            if (counts[a] != counts[b]) {
                return counts[a] > counts[b];
            }
            if (from[a] != from[b]) {
                return from[a] < from[b];
            }
            return to[a] < to[b];
        }

        private void swap(int a, int b) {
            int oldFrom = from[a];
            int oldTo = to[a];
            long oldCount = counts[a];
            boolean oldFalling = falling[a];
            from[a] = from[b];
            to[a] = to[b];
            counts[a] = counts[b];
            falling[a] = falling[b];
            from[b] = oldFrom;
            to[b] = oldTo;
            counts[b] = oldCount;
            falling[b] = oldFalling;
        }
    }

    /** The hot blocks in chains; a chain is named by its first block. */
    private static final class Chains {
        private final int[] first = new int[MOST_BLOCKS];
        private final int[] next = new int[MOST_BLOCKS];
        private final long[] pulls = new long[MOST_BLOCKS];

        void start(Line hotBlocks) {
            Arrays.fill(next, NONE);
            for (int b = 0; b < MOST_BLOCKS; b++) {
                first[b] = hotBlocks.holds(b) ? b : NONE;
            }
        }

        int firstOf(int b) {
            return fitsRows(b) ? first[b] : NONE;
        }

        void joinAlong(Ways ways) {
            for (int w = 0; w < ways.known; w++) {
                int u = ways.from[w];
                int v = ways.to[w];
                if (ways.falling[w] && ways.counts[w] > 0L && mayJoin(u, v)) {
                    join(u, v);
                }
            }
        }

        /**
         * No case is made for the chain that comes first: as long as nothing is placed all pulls
         * are 0, so it is the one with the least block, and block 0, if it is hot, is the least.
         */
        void lineUp(Line hotBlocks, Ways ways, Line line) {
            line.empty();
            Arrays.fill(pulls, 0L);
            for (int step = 0; step < MOST_BLOCKS && line.filled < hotBlocks.filled; step++) {
                int chosen = mostPulled(hotBlocks, line);
                if (chosen == NONE) {
                    return;
                }
                appendChain(chosen, line);
                pullTowards(chosen, ways);
            }
        }

        private boolean mayJoin(int u, int v) {
            boolean isLast = firstOf(u) != NONE && next[u] == NONE;
            boolean isFirst = firstOf(v) == v;
            return isLast && isFirst && firstOf(u) != v && v != 0;
        }

        private void join(int u, int v) {
            int start = firstOf(u);
            next[u] = v;
            int b = v;
            for (int step = 0; step < MOST_BLOCKS && fitsRows(b); step++) {
                first[b] = start;
                b = next[b];
            }
        }

        // Blocks are met by number, so of equal chains the one with the least block is met first.
        private int mostPulled(Line hotBlocks, Line placed) {
            int chosen = NONE;
            for (int k = 0; k < hotBlocks.filled; k++) {
                int b = hotBlocks.blockAt(k);
                if (!placed.holds(b) && (chosen == NONE || pullOf(firstOf(b)) > pullOf(chosen))) {
                    chosen = firstOf(b);
                }
            }
            return chosen;
        }

        private long pullOf(int chain) {
            return fitsRows(chain) ? pulls[chain] : 0L;
        }

        private void appendChain(int chosen, Line line) {
            int b = chosen;
            for (int step = 0; step < MOST_BLOCKS && fitsRows(b); step++) {
                line.append(b);
                b = next[b];
            }
        }

        // The placed chain pulls at itself too, which is harmless: it is not chosen again.
        private void pullTowards(int placed, Ways ways) {
            for (int w = 0; w < ways.known; w++) {
                int a = firstOf(ways.from[w]);
                int b = firstOf(ways.to[w]);
                if (a == placed && fitsRows(b)) {
                    pulls[b] += ways.counts[w];
                }
                if (b == placed && fitsRows(a)) {
                    pulls[a] += ways.counts[w];
                }
            }
        }
    }
}
