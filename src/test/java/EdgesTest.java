/** Each sentence of the document that names a boundary, by a test of its own. */
public final class EdgesTest {
    private static final int LEAST = Integer.MIN_VALUE;
    private static final int GREATEST = Integer.MAX_VALUE;
    private static final int MOST_TOLD = 1000000000;
    private static final long MOST_COUNT = 1000000000000000L;

    private static int wrong = 0;
    private static String edge = "";

    private static void due(String call, long got, long want) {
        if (got != want) {
            wrong++;
            System.out.println(edge + ": " + call + " answered " + got + ", due is " + want);
        }
    }

    private static void due(String call, boolean got, boolean want) {
        due(call, got ? 1L : 0L, want ? 1L : 0L);
    }

    private static void dueSize(BlockRows x, int n, boolean want) {
        due("size(" + n + ")", x.size(n), want);
    }

    private static void dueHeat(BlockRows x, int b, boolean hot, boolean want) {
        due("heat(" + b + ", " + hot + ")", x.heat(b, hot), want);
    }

    private static void dueWay(BlockRows x, int u, int v, int count, boolean falls, long want) {
        due("way(" + u + ", " + v + ", " + count + ", " + falls + ")", x.way(u, v, count, falls), want);
    }

    private static void dueCount(BlockRows x, int u, int v, long want) {
        due("count(" + u + ", " + v + ")", x.count(u, v), want);
    }

    private static void dueRow(BlockRows x, int... want) {
        due("length()", x.length(), want.length);
        for (int k = 0; k < want.length; k++) {
            due("row(" + k + ")", x.row(k), want[k]);
        }
        due("row(" + want.length + ")", x.row(want.length), -1);
    }

    private static void dueWeights(BlockRows x, long row, long hotByNumber, long allByNumber, long byChains) {
        due("weight(0)", x.weight(0), row);
        due("weight(1)", x.weight(1), hotByNumber);
        due("weight(2)", x.weight(2), allByNumber);
        due("weight(3)", x.weight(3), byChains);
    }

    private static void dueChains(BlockRows x, int... want) {
        for (int b = 0; b < want.length; b++) {
            due("chain(" + b + ")", x.chain(b), want[b]);
        }
    }

    private static BlockRows sized(int n) {
        BlockRows x = new BlockRows();
        dueSize(x, n, true);
        return x;
    }

    private static BlockRows hot(int n, int... blocks) {
        BlockRows x = sized(n);
        for (int b : blocks) {
            dueHeat(x, b, true, true);
        }
        return x;
    }

    private static BlockRows allHot(int n) {
        BlockRows x = sized(n);
        for (int b = 0; b < n; b++) {
            dueHeat(x, b, true, true);
        }
        return x;
    }

    private static BlockRows thousandWays() {
        BlockRows x = sized(200);
        for (int w = 0; w < 1000; w++) {
            dueWay(x, w % 200, w / 200, 1, true, 1);
        }
        return x;
    }

    private static BlockRows tellUpTo(long count) {
        BlockRows x = allHot(3);
        for (long left = count; left > 0; left -= MOST_TOLD) {
            x.way(0, 2, (int) Math.min(left, MOST_TOLD), true);
        }
        return x;
    }

    public static void main(String[] args) {
        newObject();
        size();
        heat();
        wayBlocks();
        wayCounts();
        wayLimits();
        count();
        lengthAndRow();
        weight();
        chain();
        joining();
        placing();
        calls();
        System.out.println(wrong == 0 ? "all answers are as due" : wrong + " answers are not as due");
        if (wrong != 0) {
            System.exit(1);
        }
    }

    // Promise 1

    private static void newObject() {
        newHasBlockZero();
        newHasNoBlockOne();
        newIsNotHot();
        newHasNoWays();
    }

    private static void newHasBlockZero() {
        edge = "new: one block";
        BlockRows x = new BlockRows();
        dueHeat(x, 0, true, true);
        dueRow(x, 0);
        dueWay(new BlockRows(), 0, 0, 1, true, 1);
    }

    private static void newHasNoBlockOne() {
        edge = "new: no more than one block";
        BlockRows x = new BlockRows();
        dueHeat(x, 1, true, false);
        dueWay(x, 0, 1, 1, true, -1);
        dueWay(x, 1, 0, 1, true, -1);
        dueRow(x);
    }

    private static void newIsNotHot() {
        edge = "new: not hot";
        BlockRows x = new BlockRows();
        due("chain(0)", x.chain(0), -1);
        dueRow(x);
        dueWeights(x, 0, 0, 0, 0);
    }

    private static void newHasNoWays() {
        edge = "new: no ways";
        dueCount(new BlockRows(), 0, 0, 0);
    }

    // Promise 2

    private static void size() {
        sizeTooSmall();
        sizeLeast();
        sizeGreatest();
        sizeTooLarge();
        sizeRefusedChangesNothing();
        sizeCoolsAllBlocks();
        sizeForgetsWays();
        sizeForgetsWaysThatPlaced();
        sizeForgetsThatItWasFull();
        sizeShrinks();
        sizeOfBeforeIsNotRemembered();
    }

    private static void sizeTooSmall() {
        edge = "size: too small";
        BlockRows x = new BlockRows();
        int[] refused = {0, -1, -2, -200, LEAST};
        for (int n : refused) {
            dueSize(x, n, false);
        }
    }

    private static void sizeLeast() {
        edge = "size: the least";
        BlockRows x = sized(1);
        dueHeat(x, 0, true, true);
        dueHeat(x, 1, true, false);
        dueRow(x, 0);
    }

    private static void sizeGreatest() {
        edge = "size: the greatest";
        BlockRows x = sized(200);
        dueHeat(x, 199, true, true);
        dueHeat(x, 200, true, false);
        dueRow(x, 199);
    }

    private static void sizeTooLarge() {
        edge = "size: too large";
        BlockRows x = new BlockRows();
        int[] refused = {201, 202, 256, 1000, GREATEST};
        for (int n : refused) {
            dueSize(x, n, false);
        }
    }

    private static void sizeRefusedChangesNothing() {
        edge = "size: refused";
        int[] refused = {0, 201, -1, LEAST, GREATEST};
        for (int n : refused) {
            BlockRows x = allHot(3);
            dueWay(x, 0, 2, 5, true, 5);
            dueSize(x, n, false);
            dueRow(x, 0, 2, 1);
            dueCount(x, 0, 2, 5);
            dueHeat(x, 2, true, true);
            dueHeat(x, 3, true, false);
        }
    }

    private static void sizeCoolsAllBlocks() {
        edge = "size: none hot";
        BlockRows x = allHot(200);
        dueSize(x, 200, true);
        dueRow(x);
        for (int b = 0; b < 200; b++) {
            due("chain(" + b + ")", x.chain(b), -1);
        }
    }

    private static void sizeForgetsWays() {
        edge = "size: no ways";
        BlockRows x = allHot(2);
        dueWay(x, 0, 1, 6, true, 6);
        dueWay(x, 1, 1, 5, true, 5);
        dueSize(x, 2, true);
        dueCount(x, 0, 1, 0);
        dueCount(x, 1, 1, 0);
        dueHeat(x, 0, true, true);
        dueHeat(x, 1, true, true);
        dueWeights(x, 0, 0, 0, 0);
        dueChains(x, 0, 1);
        dueWay(x, 0, 1, 2, true, 2);
    }

    private static void sizeForgetsWaysThatPlaced() {
        edge = "size: no ways, as chains are placed";
        BlockRows x = allHot(4);
        dueWay(x, 0, 3, 9, true, 9);
        dueWay(x, 2, 0, 5, false, 5);
        dueRow(x, 0, 3, 2, 1);
        dueSize(x, 4, true);
        for (int b = 0; b < 4; b++) {
            dueHeat(x, b, true, true);
        }
        dueWay(x, 0, 3, 1, true, 1);
        dueRow(x, 0, 3, 1, 2);
    }

    private static void sizeForgetsThatItWasFull() {
        edge = "size: no ways where there were 1000";
        BlockRows x = thousandWays();
        dueSize(x, 200, true);
        dueWay(x, 7, 199, 3, true, 3);
        dueCount(x, 0, 0, 0);
        dueCount(x, 199, 4, 0);
    }

    private static void sizeShrinks() {
        edge = "size: fewer blocks than before";
        BlockRows x = allHot(5);
        dueSize(x, 2, true);
        dueHeat(x, 2, true, false);
        dueWay(x, 0, 2, 1, true, -1);
        due("chain(4)", x.chain(4), -1);
        dueHeat(x, 1, true, true);
        dueRow(x, 1);
    }

    private static void sizeOfBeforeIsNotRemembered() {
        edge = "size: less and more again";
        BlockRows x = allHot(5);
        dueWay(x, 4, 3, 9, true, 9);
        dueSize(x, 1, true);
        dueSize(x, 5, true);
        dueRow(x);
        dueCount(x, 4, 3, 0);
    }

    // Promise 3

    private static void heat() {
        heatBeforeTheFirst();
        heatLast();
        heatBehindTheLast();
        heatRefusedChangesNothing();
        heatTwice();
        heatOff();
    }

    private static void heatBeforeTheFirst() {
        edge = "heat: before the first block";
        BlockRows x = sized(3);
        int[] none = {-1, -2, -200, LEAST};
        for (int b : none) {
            dueHeat(x, b, true, false);
            dueHeat(x, b, false, false);
        }
    }

    private static void heatLast() {
        edge = "heat: the last block";
        int[] sizes = {1, 2, 3, 199, 200};
        for (int n : sizes) {
            BlockRows x = sized(n);
            dueHeat(x, n - 1, true, true);
            dueRow(x, n - 1);
            dueHeat(x, n - 1, false, true);
            dueRow(x);
        }
    }

    private static void heatBehindTheLast() {
        edge = "heat: behind the last block";
        int[] sizes = {1, 2, 3, 199, 200};
        for (int n : sizes) {
            BlockRows x = sized(n);
            int[] none = {n, n + 1, 200, 201, GREATEST};
            for (int b : none) {
                dueHeat(x, b, true, false);
                dueHeat(x, b, false, false);
            }
        }
    }

    private static void heatRefusedChangesNothing() {
        edge = "heat: refused";
        BlockRows x = hot(3, 0, 2);
        dueHeat(x, -1, false, false);
        dueHeat(x, 3, true, false);
        dueHeat(x, 3, false, false);
        dueRow(x, 0, 2);
        dueSize(x, 4, true);
        dueRow(x);
    }

    private static void heatTwice() {
        edge = "heat: what it is already";
        BlockRows x = hot(3, 1, 1);
        dueRow(x, 1);
        dueHeat(x, 0, false, true);
        dueRow(x, 1);
    }

    private static void heatOff() {
        edge = "heat: not hot any more";
        BlockRows x = hot(1, 0);
        dueRow(x, 0);
        dueHeat(x, 0, false, true);
        dueRow(x);
        dueHeat(x, 0, true, true);
        dueRow(x, 0);
    }

    // Promise 4

    private static void wayBlocks() {
        wayFirstBlockMissing();
        waySecondBlockMissing();
        wayOfLastBlocks();
        wayToItself();
        wayBackIsAnother();
        wayBetweenColdBlocks();
    }

    private static void wayFirstBlockMissing() {
        edge = "way: no first block";
        BlockRows x = sized(3);
        int[] none = {-1, 3, 200, LEAST, GREATEST};
        for (int u : none) {
            dueWay(x, u, 0, 1, true, -1);
            dueWay(x, u, u, 1, true, -1);
            dueWay(x, u, 0, -1, true, -1);
            dueWay(x, u, 0, MOST_TOLD + 1, true, -1);
            dueCount(x, u, 0, 0);
        }
    }

    private static void waySecondBlockMissing() {
        edge = "way: no second block";
        BlockRows x = sized(3);
        int[] none = {-1, 3, 200, LEAST, GREATEST};
        for (int v : none) {
            dueWay(x, 2, v, 1, true, -1);
            dueWay(x, 2, v, -1, true, -1);
            dueWay(x, 2, v, MOST_TOLD + 1, true, -1);
            dueCount(x, 2, v, 0);
        }
    }

    private static void wayOfLastBlocks() {
        edge = "way: the last block";
        BlockRows x = sized(200);
        dueWay(x, 199, 0, 2, true, 2);
        dueWay(x, 0, 199, 3, true, 3);
        dueWay(x, 199, 199, 4, true, 4);
        dueWay(x, 200, 199, 5, true, -1);
        dueWay(x, 199, 200, 5, true, -1);
    }

    private static void wayToItself() {
        edge = "way: from a block to itself";
        BlockRows x = allHot(2);
        dueWay(x, 1, 1, 5, true, 5);
        dueWay(x, 1, 1, 6, true, 11);
        dueCount(x, 1, 1, 11);
        dueCount(x, 0, 0, 0);
        dueChains(x, 0, 1);
        dueWeights(x, 0, 0, 0, 0);
    }

    private static void wayBackIsAnother() {
        edge = "way: back";
        BlockRows x = sized(2);
        dueWay(x, 0, 1, 5, true, 5);
        dueWay(x, 1, 0, 7, true, 7);
        dueWay(x, 0, 1, 1, true, 6);
        dueCount(x, 1, 0, 7);
    }

    private static void wayBetweenColdBlocks() {
        edge = "way: blocks that are not hot";
        BlockRows x = sized(2);
        dueWay(x, 0, 1, 5, true, 5);
        dueCount(x, 0, 1, 5);
        dueWeights(x, 0, 0, 5, 0);
    }

    private static void wayCounts() {
        wayCountTooSmall();
        wayCountZero();
        wayCountGreatest();
        wayCountTooLarge();
        wayRefusedChangesNothing();
        wayFallsFromNowOn();
        waySumsBeyondInt();
    }

    private static void wayCountTooSmall() {
        edge = "way: count too small";
        BlockRows x = sized(2);
        int[] counts = {-1, -2, -MOST_TOLD, LEAST};
        for (int count : counts) {
            dueWay(x, 0, 1, count, true, -2);
            dueWay(x, 0, 0, count, false, -2);
        }
        dueCount(x, 0, 1, 0);
    }

    private static void wayCountZero() {
        edge = "way: a count of 0";
        BlockRows x = allHot(3);
        dueWay(x, 0, 2, 0, true, 0);
        dueCount(x, 0, 2, 0);
        dueWay(x, 0, 2, 4, true, 4);
        dueWay(x, 0, 2, 0, true, 4);
        dueCount(x, 0, 2, 4);
        dueRow(x, 0, 2, 1);
    }

    private static void wayCountGreatest() {
        edge = "way: the greatest count";
        BlockRows x = sized(2);
        dueWay(x, 0, 1, MOST_TOLD - 1, true, 999999999L);
        dueWay(x, 1, 0, MOST_TOLD, true, 1000000000L);
        dueWay(x, 1, 0, MOST_TOLD, true, 2000000000L);
    }

    private static void wayCountTooLarge() {
        edge = "way: count too large";
        BlockRows x = sized(2);
        int[] counts = {MOST_TOLD + 1, MOST_TOLD + 2, GREATEST};
        for (int count : counts) {
            dueWay(x, 0, 1, count, true, -2);
        }
        dueCount(x, 0, 1, 0);
    }

    private static void wayRefusedChangesNothing() {
        edge = "way: refused";
        BlockRows x = allHot(3);
        dueWay(x, 0, 2, 5, true, 5);
        dueWay(x, 0, 2, -1, false, -2);
        dueWay(x, 0, 2, MOST_TOLD + 1, false, -2);
        dueWay(x, 0, 3, 1, false, -1);
        dueWay(x, -1, 2, 1, false, -1);
        dueCount(x, 0, 2, 5);
        dueRow(x, 0, 2, 1);
        dueWeights(x, 5, 0, 0, 5);
    }

    private static void wayFallsFromNowOn() {
        edge = "way: falls from now on, or does not";
        BlockRows x = allHot(3);
        dueWay(x, 0, 2, 5, false, 5);
        dueWeights(x, 0, 0, 0, 0);
        dueWay(x, 0, 2, 0, true, 5);
        dueWeights(x, 5, 0, 0, 5);
        dueWay(x, 0, 2, 0, false, 5);
        dueWeights(x, 0, 0, 0, 0);
        dueRow(x, 0, 1, 2);
    }

    private static void waySumsBeyondInt() {
        edge = "way: sums beyond int";
        BlockRows x = sized(2);
        for (long told = 1; told <= 510; told++) {
            dueWay(x, 0, 1, MOST_TOLD, true, told * MOST_TOLD);
        }
        dueCount(x, 0, 1, 510000000000L);
    }

    // Both limits lie beyond an object's 512 calls, where answers are free; they hold there too.
    private static void wayLimits() {
        wayThousandth();
        wayBehindTheThousandth();
        wayKnownAmongThousand();
        waysOfThousandAreAllLookedAt();
        wayRefusalsGoInOrder();
        wayJustBelowMostCount();
        wayAtMostCount();
        wayAboveMostCount();
    }

    private static void wayThousandth() {
        edge = "way: the last that there is room for";
        BlockRows x = sized(200);
        for (int w = 0; w < 999; w++) {
            dueWay(x, w % 200, w / 200, 1, true, 1);
        }
        dueWay(x, 100, 100, 8, true, 8);
        dueWay(x, 100, 101, 8, true, -3);
        dueCount(x, 100, 100, 8);
    }

    private static void wayBehindTheThousandth() {
        edge = "way: there are 1000 ways and this is none of them";
        BlockRows x = thousandWays();
        dueWay(x, 0, 5, 1, true, -3);
        dueWay(x, 5, 5, 0, true, -3);
        dueWay(x, 199, 199, MOST_TOLD, false, -3);
        dueCount(x, 0, 5, 0);
        dueCount(x, 199, 199, 0);
    }

    private static void wayKnownAmongThousand() {
        edge = "way: there are 1000 ways and this is one of them";
        BlockRows x = thousandWays();
        dueWay(x, 0, 0, 4, true, 5);
        dueWay(x, 199, 4, 6, true, 7);
        dueWay(x, 100, 2, 0, false, 1);
        dueCount(x, 199, 4, 7);
    }

    private static void waysOfThousandAreAllLookedAt() {
        edge = "way: a row where there are 1000 ways";
        BlockRows x = thousandWays();
        dueHeat(x, 199, true, true);
        dueHeat(x, 4, true, true);
        // 199 -> 4 is the last of the ways by its blocks; 0 -> 1 up to 3 -> 4 go by number.
        dueRow(x, 199, 4);
        dueWeights(x, 1, 0, 4, 1);
    }

    private static void wayRefusalsGoInOrder() {
        edge = "way: more than one refusal";
        BlockRows x = thousandWays();
        dueWay(x, 200, 5, -1, true, -1);
        dueWay(x, 5, 200, 1, true, -1);
        dueWay(x, 5, 5, -1, true, -2);
        dueWay(x, 5, 5, MOST_TOLD + 1, true, -2);
    }

    private static void wayJustBelowMostCount() {
        edge = "way: just below 10^15";
        BlockRows x = tellUpTo(MOST_COUNT - 2);
        dueWay(x, 0, 2, 1, true, MOST_COUNT - 1);
        dueCount(x, 0, 2, MOST_COUNT - 1);
    }

    private static void wayAtMostCount() {
        edge = "way: 10^15";
        BlockRows x = tellUpTo(MOST_COUNT - 1);
        dueWay(x, 0, 2, 1, true, MOST_COUNT);
        dueCount(x, 0, 2, MOST_COUNT);
        dueWay(x, 0, 2, 0, true, MOST_COUNT);
    }

    private static void wayAboveMostCount() {
        edge = "way: more is 10^15";
        BlockRows x = tellUpTo(MOST_COUNT - 1);
        dueWay(x, 0, 2, 2, true, MOST_COUNT);
        dueWay(x, 0, 2, MOST_TOLD, true, MOST_COUNT);
        dueCount(x, 0, 2, MOST_COUNT);
        dueWeights(x, MOST_COUNT, 0, 0, MOST_COUNT);
        dueWay(x, 0, 2, 1, false, MOST_COUNT);
        dueWeights(x, 0, 0, 0, 0);
    }

    // Promise 5

    private static void count() {
        countOfNoWay();
        countOfNoBlocks();
        countOfBlocksThatWere();
        countAsksOnly();
    }

    private static void countOfNoWay() {
        edge = "count: there is none";
        BlockRows x = sized(3);
        dueWay(x, 0, 1, 5, true, 5);
        dueCount(x, 1, 0, 0);
        dueCount(x, 0, 0, 0);
        dueCount(x, 1, 1, 0);
        dueCount(x, 0, 2, 0);
        dueCount(x, 2, 1, 0);
        dueCount(x, 0, 1, 5);
    }

    private static void countOfNoBlocks() {
        edge = "count: no blocks";
        BlockRows x = sized(3);
        dueWay(x, 0, 0, 5, true, 5);
        dueWay(x, 2, 2, 6, true, 6);
        int[] none = {-1, 3, 199, 200, 201, LEAST, GREATEST};
        for (int b : none) {
            dueCount(x, b, 0, 0);
            dueCount(x, 2, b, 0);
            dueCount(x, b, b, 0);
        }
    }

    private static void countOfBlocksThatWere() {
        edge = "count: blocks that are gone";
        BlockRows x = sized(5);
        dueWay(x, 4, 3, 5, true, 5);
        dueSize(x, 3, true);
        dueCount(x, 4, 3, 0);
    }

    private static void countAsksOnly() {
        edge = "count: changes nothing";
        BlockRows x = allHot(2);
        dueCount(x, 0, 1, 0);
        dueCount(x, 1, 2, 0);
        dueWay(x, 0, 1, 5, true, 5);
        dueCount(x, 0, 1, 5);
        dueCount(x, 0, 1, 5);
        dueWay(x, 0, 1, 1, true, 6);
    }

    // Promises 6 and 7

    private static void lengthAndRow() {
        rowOfNoHotBlock();
        rowOfOneBlock();
        rowBeforeAndBehind();
        rowOfAllBlocks();
        rowOfOneChainOfAllBlocks();
    }

    private static void rowOfNoHotBlock() {
        edge = "row: no hot block";
        int[] sizes = {1, 2, 200};
        int[] places = {-1, 0, 1, 199, 200, LEAST, GREATEST};
        for (int n : sizes) {
            BlockRows x = sized(n);
            dueWay(x, 0, n - 1, 5, true, 5);
            due("length()", x.length(), 0);
            for (int k : places) {
                due("row(" + k + ")", x.row(k), -1);
            }
        }
    }

    private static void rowOfOneBlock() {
        edge = "row: one hot block";
        BlockRows x = hot(3, 1);
        dueRow(x, 1);
        due("row(-1)", x.row(-1), -1);
    }

    private static void rowBeforeAndBehind() {
        edge = "row: there is none";
        BlockRows byNumber = hot(4, 0, 1, 3);
        BlockRows byChains = hot(4, 0, 1, 3);
        dueWay(byChains, 0, 3, 5, true, 5);
        int[] none = {-1, -2, 3, 4, 199, 200, LEAST, GREATEST};
        for (int k : none) {
            due("row(" + k + ") by number", byNumber.row(k), -1);
            due("row(" + k + ") by chains", byChains.row(k), -1);
        }
        due("row(2) by number", byNumber.row(2), 3);
        due("row(2) by chains", byChains.row(2), 1);
    }

    private static void rowOfAllBlocks() {
        edge = "row: 200 hot blocks";
        BlockRows x = allHot(200);
        dueWay(x, 0, 199, 5, true, 5);
        due("length()", x.length(), 200);
        due("row(0)", x.row(0), 0);
        due("row(1)", x.row(1), 199);
        due("row(199)", x.row(199), 198);
        due("row(200)", x.row(200), -1);
    }

    private static void rowOfOneChainOfAllBlocks() {
        edge = "row: one chain of 200 blocks";
        BlockRows x = allHot(200);
        dueWay(x, 0, 199, 1, true, 1);
        for (int b = 199; b > 1; b--) {
            dueWay(x, b, b - 1, 1, true, 1);
        }
        due("length()", x.length(), 200);
        due("row(0)", x.row(0), 0);
        due("row(1)", x.row(1), 199);
        due("row(199)", x.row(199), 1);
        due("chain(1)", x.chain(1), 0);
        dueWeights(x, 199, 0, 0, 199);
    }

    // Promise 8

    private static void weight() {
        weightOfAnotherNumber();
        weightOfNoBlock();
        weightOfOneBlock();
        weightOfEqualRows();
        weightOfNothing();
        weightJustAbove();
        weightJustBelow();
        weightOfFallingWaysOnly();
        weightOfWaysRightBehindOnly();
        weightOfColdBlocks();
        weightOfColdBlocksIsNotCompared();
        weightAskedAgainAndAgain();
        weightBeyondInt();
        weightOfMostCounts();
    }

    private static void weightOfAnotherNumber() {
        edge = "weight: another number";
        BlockRows x = allHot(2);
        dueWay(x, 0, 1, 5, true, 5);
        int[] others = {-1, 4, -2, 5, 256, LEAST, GREATEST};
        for (int what : others) {
            due("weight(" + what + ")", x.weight(what), -1);
            due("weight(" + what + ") of a new one", new BlockRows().weight(what), -1);
        }
        dueWeights(x, 5, 5, 5, 5);
    }

    private static void weightOfNoBlock() {
        edge = "weight: a row of no block";
        BlockRows x = sized(2);
        dueWay(x, 0, 1, 5, true, 5);
        dueWay(x, 0, 0, 7, true, 7);
        dueWeights(x, 0, 0, 5, 0);
    }

    private static void weightOfOneBlock() {
        edge = "weight: a row of one block";
        BlockRows x = hot(2, 1);
        dueWay(x, 0, 1, 5, true, 5);
        dueWay(x, 1, 1, 7, true, 7);
        dueWeights(x, 0, 0, 5, 0);
        BlockRows y = hot(1, 0);
        dueWay(y, 0, 0, 7, true, 7);
        dueWeights(y, 0, 0, 0, 0);
    }

    private static BlockRows twoRows(int byChains) {
        BlockRows x = allHot(4);
        dueWay(x, 0, 1, 3, true, 3);
        dueWay(x, 2, 3, 3, true, 3);
        dueWay(x, 0, 3, byChains, true, byChains);
        dueChains(x, 0, 1, 2, 0);
        return x;
    }

    private static void weightOfEqualRows() {
        edge = "weight: equal weights";
        BlockRows x = twoRows(6);
        dueWeights(x, 6, 6, 6, 6);
        dueRow(x, 0, 1, 2, 3);
    }

    private static void weightOfNothing() {
        edge = "weight: equal weights of 0";
        BlockRows x = allHot(4);
        dueWay(x, 0, 3, 9, false, 9);
        // By chains it would be 0 3 1 2, as 0 and 3 belong together by that way.
        dueWeights(x, 0, 0, 0, 0);
        dueRow(x, 0, 1, 2, 3);
    }

    private static void weightJustAbove() {
        edge = "weight: above by 1";
        BlockRows x = twoRows(7);
        dueWeights(x, 7, 6, 6, 7);
        dueRow(x, 0, 3, 1, 2);
    }

    private static void weightJustBelow() {
        edge = "weight: below by 1";
        BlockRows x = twoRows(5);
        dueWeights(x, 6, 6, 6, 5);
        dueRow(x, 0, 1, 2, 3);
    }

    private static void weightOfFallingWaysOnly() {
        edge = "weight: ways that do not fall";
        BlockRows x = allHot(3);
        dueWay(x, 0, 1, 5, false, 5);
        dueWay(x, 1, 2, 4, true, 4);
        dueWeights(x, 4, 4, 4, 4);
    }

    private static void weightOfWaysRightBehindOnly() {
        edge = "weight: ways that do not go right behind";
        BlockRows x = allHot(3);
        dueWay(x, 1, 0, 50, true, 50);
        dueWay(x, 0, 2, 3, true, 3);
        dueWay(x, 0, 1, 4, true, 4);
        dueWay(x, 1, 2, 5, true, 5);
        dueWeights(x, 9, 9, 9, 9);
    }

    private static void weightOfColdBlocks() {
        edge = "weight: blocks that are not hot";
        BlockRows x = hot(4, 1, 3);
        dueWay(x, 0, 1, 1, true, 1);
        dueWay(x, 1, 2, 10, true, 10);
        dueWay(x, 2, 3, 100, true, 100);
        dueWay(x, 1, 3, 1000, true, 1000);
        // Neither 0 nor 2 is in the row, so what goes from them or to them is weighed for (2) alone.
        dueWeights(x, 1000, 1000, 111, 1000);
    }

    private static void weightOfColdBlocksIsNotCompared() {
        edge = "weight: above that of the hot blocks, below that of all";
        BlockRows x = hot(4, 0, 2, 3);
        dueWay(x, 0, 1, 90, true, 90);
        dueWay(x, 0, 3, 5, true, 5);
        dueWeights(x, 5, 0, 90, 5);
        dueRow(x, 0, 3, 2);
    }

    private static void weightAskedAgainAndAgain() {
        edge = "weight: asked after each of many changes";
        BlockRows x = allHot(7);
        for (int b = 0; b < 6; b++) {
            dueWay(x, b, b + 1, 1, true, 1);
        }
        for (int times = 0; times < 60; times++) {
            dueHeat(x, 6, false, true);
            dueWeights(x, 5, 5, 6, 5);
            dueHeat(x, 6, true, true);
            due("weight(2)", x.weight(2), 6);
        }
    }

    private static void weightBeyondInt() {
        edge = "weight: sums beyond int";
        BlockRows x = allHot(6);
        for (int b = 0; b < 5; b++) {
            dueWay(x, b, b + 1, MOST_TOLD, true, MOST_TOLD);
        }
        dueWeights(x, 5000000000L, 5000000000L, 5000000000L, 5000000000L);
    }

    private static void weightOfMostCounts() {
        edge = "weight: ways of 10^15";
        BlockRows x = allHot(3);
        for (int told = 0; told < 1000000; told++) {
            x.way(0, 1, MOST_TOLD, true);
            x.way(1, 2, MOST_TOLD, true);
        }
        dueWeights(x, 2 * MOST_COUNT, 2 * MOST_COUNT, 2 * MOST_COUNT, 2 * MOST_COUNT);
    }

    // Promise 9

    private static void chain() {
        chainOfColdBlock();
        chainOfNoBlock();
        chainOfOne();
        chainOfBlockThatWas();
        chainNeedNotBeginWithItsLeast();
        chainBreaksWhereABlockCools();
        chainWhereTheRowIsByNumber();
    }

    private static void chainOfColdBlock() {
        edge = "chain: not hot";
        BlockRows x = hot(3, 0, 2);
        dueWay(x, 0, 1, 5, true, 5);
        dueWay(x, 1, 2, 5, true, 5);
        dueChains(x, 0, -1, 2);
    }

    private static void chainOfNoBlock() {
        edge = "chain: no such block";
        BlockRows x = allHot(3);
        int[] none = {-1, 3, 199, 200, 201, LEAST, GREATEST};
        for (int b : none) {
            due("chain(" + b + ")", x.chain(b), -1);
        }
    }

    private static void chainOfOne() {
        edge = "chain: of one";
        dueChains(allHot(3), 0, 1, 2);
        BlockRows x = hot(200, 199);
        due("chain(199)", x.chain(199), 199);
        due("chain(198)", x.chain(198), -1);
    }

    private static void chainOfBlockThatWas() {
        edge = "chain: a block that is gone";
        BlockRows x = allHot(5);
        dueChains(x, 0, 1, 2, 3, 4);
        dueSize(x, 2, true);
        dueChains(x, -1, -1, -1, -1, -1);
    }

    private static void chainNeedNotBeginWithItsLeast() {
        edge = "chain: its first is not its least";
        BlockRows x = allHot(4);
        dueWay(x, 3, 1, 5, true, 5);
        dueWay(x, 1, 2, 4, true, 4);
        dueChains(x, 0, 3, 3, 3);
    }

    private static void chainBreaksWhereABlockCools() {
        edge = "chain: a block within it cools";
        BlockRows x = allHot(4);
        dueWay(x, 1, 2, 5, true, 5);
        dueWay(x, 2, 3, 5, true, 5);
        dueChains(x, 0, 1, 1, 1);
        dueHeat(x, 2, false, true);
        dueChains(x, 0, 1, -1, 3);
        dueHeat(x, 2, true, true);
        dueChains(x, 0, 1, 1, 1);
    }

    private static void chainWhereTheRowIsByNumber() {
        edge = "chain: the row is by number";
        BlockRows x = twoRows(5);
        dueRow(x, 0, 1, 2, 3);
        dueChains(x, 0, 1, 2, 0);
    }

    // Terms, ROW: how chains become one

    private static void joining() {
        joinNotFalling();
        joinCountZero();
        joinCountOne();
        joinFirstNotHot();
        joinSecondNotHot();
        joinGreaterFirst();
        joinEqualByFirstBlock();
        joinEqualBySecondBlock();
        joinFirstIsNotLast();
        joinSecondIsNotFirst();
        joinSameChain();
        joinItself();
        joinIntoBlockZero();
        joinFromBlockZero();
        joinRoundBlockZero();
    }

    private static void joinNotFalling() {
        edge = "joining: a way that does not fall";
        BlockRows x = allHot(4);
        dueWay(x, 1, 3, 9, false, 9);
        dueChains(x, 0, 1, 2, 3);
        dueWay(x, 1, 2, 1, true, 1);
        dueChains(x, 0, 1, 1, 3);
    }

    private static void joinCountZero() {
        edge = "joining: a count of 0";
        BlockRows x = allHot(3);
        dueWay(x, 1, 2, 0, true, 0);
        dueChains(x, 0, 1, 2);
    }

    private static void joinCountOne() {
        edge = "joining: a count of 1";
        BlockRows x = allHot(3);
        dueWay(x, 1, 2, 1, true, 1);
        dueChains(x, 0, 1, 1);
    }

    private static void joinFirstNotHot() {
        edge = "joining: the first block is not hot";
        BlockRows x = hot(4, 2, 3);
        dueWay(x, 1, 3, 9, true, 9);
        dueChains(x, -1, -1, 2, 3);
        dueWay(x, 2, 3, 1, true, 1);
        dueChains(x, -1, -1, 2, 2);
    }

    private static void joinSecondNotHot() {
        edge = "joining: the second block is not hot";
        BlockRows x = hot(4, 1, 3);
        dueWay(x, 1, 2, 9, true, 9);
        dueChains(x, -1, 1, -1, 3);
        dueWay(x, 1, 3, 1, true, 1);
        dueChains(x, -1, 1, -1, 1);
    }

    private static void joinGreaterFirst() {
        edge = "joining: greater by 1";
        BlockRows x = allHot(4);
        dueWay(x, 1, 2, 5, true, 5);
        dueWay(x, 1, 3, 6, true, 6);
        dueChains(x, 0, 1, 2, 1);
        dueWay(x, 1, 2, 2, true, 7);
        dueChains(x, 0, 1, 1, 3);
    }

    private static void joinEqualByFirstBlock() {
        edge = "joining: equal counts, the lesser first block";
        BlockRows x = allHot(5);
        dueWay(x, 3, 1, 5, true, 5);
        dueWay(x, 2, 1, 5, true, 5);
        dueWay(x, 4, 1, 5, true, 5);
        dueChains(x, 0, 2, 2, 3, 4);
        // The first block goes before the second one: 1 -> 4 is looked at before 2 -> 1 and 4 -> 2.
        BlockRows y = allHot(5);
        dueWay(y, 4, 2, 5, true, 5);
        dueWay(y, 2, 1, 5, true, 5);
        dueWay(y, 1, 4, 5, true, 5);
        dueChains(y, 0, 2, 2, 3, 2);
    }

    private static void joinEqualBySecondBlock() {
        edge = "joining: equal counts, the lesser second block";
        BlockRows x = allHot(5);
        dueWay(x, 1, 4, 5, true, 5);
        dueWay(x, 1, 2, 5, true, 5);
        dueWay(x, 1, 3, 5, true, 5);
        dueChains(x, 0, 1, 1, 3, 4);
    }

    private static void joinFirstIsNotLast() {
        edge = "joining: the first block is not the last of its chain";
        BlockRows x = allHot(4);
        dueWay(x, 1, 2, 5, true, 5);
        dueWay(x, 1, 3, 4, true, 4);
        dueChains(x, 0, 1, 1, 3);
    }

    private static void joinSecondIsNotFirst() {
        edge = "joining: the second block is not the first of its chain";
        BlockRows x = allHot(4);
        dueWay(x, 1, 2, 5, true, 5);
        dueWay(x, 3, 2, 4, true, 4);
        dueChains(x, 0, 1, 1, 3);
    }

    private static void joinSameChain() {
        edge = "joining: not another chain";
        BlockRows x = allHot(4);
        dueWay(x, 1, 2, 5, true, 5);
        dueWay(x, 2, 3, 5, true, 5);
        dueWay(x, 3, 1, 4, true, 4);
        dueChains(x, 0, 1, 1, 1);
        dueRow(x, 0, 1, 2, 3);
        BlockRows y = allHot(3);
        dueWay(y, 2, 1, 5, true, 5);
        dueWay(y, 1, 2, 4, true, 4);
        dueChains(y, 0, 2, 2);
        dueRow(y, 0, 2, 1);
    }

    private static void joinItself() {
        edge = "joining: a way from a block to itself";
        BlockRows x = allHot(3);
        dueWay(x, 2, 2, 9, true, 9);
        dueWay(x, 2, 1, 1, true, 1);
        dueChains(x, 0, 2, 2);
        dueRow(x, 0, 2, 1);
    }

    private static void joinIntoBlockZero() {
        edge = "joining: into block 0";
        BlockRows x = allHot(3);
        dueWay(x, 1, 0, 9, true, 9);
        dueWay(x, 2, 0, 9, true, 9);
        dueChains(x, 0, 1, 2);
        dueWeights(x, 0, 0, 0, 0);
        // The way into 0 does not take the place of the lesser one, either.
        dueWay(x, 2, 1, 1, true, 1);
        dueChains(x, 0, 2, 2);
        dueRow(x, 0, 2, 1);
    }

    private static void joinFromBlockZero() {
        edge = "joining: from block 0";
        BlockRows x = allHot(3);
        dueWay(x, 0, 2, 1, true, 1);
        dueChains(x, 0, 1, 0);
    }

    private static void joinRoundBlockZero() {
        edge = "joining: into block 0, which is not hot";
        BlockRows x = hot(3, 1, 2);
        dueWay(x, 2, 0, 9, true, 9);
        dueWay(x, 0, 1, 9, true, 9);
        dueChains(x, -1, 1, 2);
        dueRow(x, 1, 2);
    }

    // Terms, ROW: how chains are placed. A way 0 -> last of 100 lets the row be by chains.

    private static void placing() {
        placeBlockZeroFirst();
        placeLeastFirst();
        placeGreaterSum();
        placeByWaysOfBothSides();
        placeByWaysThatDoNotFall();
        placeByAllThatIsPlaced();
        placeBySumsOfAllBlocks();
        placeEqualSums();
        placeNoSums();
        placeNotByItself();
        placeNotByColdBlocks();
        placeByAWayAboveAllOthers();
        placeAnewAfterEachChange();
        placeBySumsBeyondInt();
    }

    private static void placeBlockZeroFirst() {
        edge = "placing: block 0 is hot";
        BlockRows x = allHot(4);
        dueWay(x, 3, 1, 100, true, 100);
        dueWay(x, 1, 2, 50, true, 50);
        dueRow(x, 0, 3, 1, 2);
    }

    private static void placeLeastFirst() {
        edge = "placing: block 0 is not hot";
        BlockRows x = hot(6, 2, 3, 4, 5);
        dueWay(x, 5, 2, 100, true, 100);
        dueWay(x, 3, 4, 100, true, 100);
        // By their first blocks the chain 3 4 would come before 5 2.
        dueRow(x, 5, 2, 3, 4);
    }

    private static void placeGreaterSum() {
        edge = "placing: greater by 1";
        BlockRows x = allHot(5);
        dueWay(x, 0, 4, 100, true, 100);
        dueWay(x, 0, 1, 5, false, 5);
        dueWay(x, 0, 2, 6, false, 6);
        dueWay(x, 0, 3, 7, false, 7);
        dueRow(x, 0, 4, 3, 2, 1);
    }

    private static void placeByWaysOfBothSides() {
        edge = "placing: ways from and to what is placed";
        BlockRows x = allHot(4);
        dueWay(x, 0, 3, 100, true, 100);
        dueWay(x, 0, 1, 5, false, 5);
        dueWay(x, 2, 0, 6, false, 6);
        dueRow(x, 0, 3, 2, 1);
        dueWay(x, 1, 3, 2, false, 2);
        dueRow(x, 0, 3, 1, 2);
        dueWay(x, 3, 2, 2, false, 2);
        dueRow(x, 0, 3, 2, 1);
    }

    private static void placeByWaysThatDoNotFall() {
        edge = "placing: ways that fall and ways that do not";
        BlockRows x = allHot(4);
        dueWay(x, 0, 3, 100, true, 100);
        dueWay(x, 0, 1, 5, true, 5);
        dueWay(x, 0, 2, 6, false, 6);
        dueRow(x, 0, 3, 2, 1);
        dueWay(x, 0, 1, 2, true, 7);
        dueRow(x, 0, 3, 1, 2);
    }

    private static void placeByAllThatIsPlaced() {
        edge = "placing: all that is placed, not the last chain alone";
        BlockRows x = allHot(5);
        dueWay(x, 0, 4, 100, true, 100);
        dueWay(x, 0, 3, 9, false, 9);
        dueWay(x, 0, 2, 5, false, 5);
        dueWay(x, 3, 1, 4, false, 4);
        dueRow(x, 0, 4, 3, 2, 1);
        dueWay(x, 1, 4, 2, false, 2);
        dueRow(x, 0, 4, 3, 1, 2);
    }

    private static void placeBySumsOfAllBlocks() {
        edge = "placing: all blocks of a chain";
        BlockRows x = allHot(6);
        dueWay(x, 0, 5, 100, true, 100);
        dueWay(x, 3, 4, 100, true, 100);
        dueWay(x, 0, 1, 5, false, 5);
        dueWay(x, 3, 0, 3, false, 3);
        dueWay(x, 5, 4, 3, false, 3);
        dueRow(x, 0, 5, 3, 4, 1, 2);
    }

    private static void placeEqualSums() {
        edge = "placing: equal sums";
        BlockRows x = allHot(7);
        dueWay(x, 0, 6, 100, true, 100);
        dueWay(x, 5, 1, 100, true, 100);
        dueWay(x, 3, 4, 100, true, 100);
        dueWay(x, 0, 3, 7, false, 7);
        dueWay(x, 5, 0, 4, false, 4);
        dueWay(x, 6, 1, 3, false, 3);
        dueWay(x, 2, 6, 7, false, 7);
        // By their first blocks it would be 2, 3 4, 5 1.
        dueRow(x, 0, 6, 5, 1, 2, 3, 4);
    }

    private static void placeNoSums() {
        edge = "placing: sums of 0";
        BlockRows x = allHot(6);
        dueWay(x, 0, 5, 100, true, 100);
        dueWay(x, 4, 1, 100, true, 100);
        dueRow(x, 0, 5, 4, 1, 2, 3);
        dueWay(x, 3, 0, 0, false, 0);
        dueRow(x, 0, 5, 4, 1, 2, 3);
    }

    private static void placeNotByItself() {
        edge = "placing: ways within a chain that is not placed";
        BlockRows x = allHot(6);
        dueWay(x, 0, 5, 100, true, 100);
        dueWay(x, 2, 3, 90, true, 90);
        dueWay(x, 3, 2, 80, false, 80);
        dueWay(x, 4, 4, 70, true, 70);
        dueWay(x, 3, 4, 60, false, 60);
        dueRow(x, 0, 5, 1, 2, 3, 4);
    }

    private static void placeNotByColdBlocks() {
        edge = "placing: blocks that are not hot";
        BlockRows x = hot(5, 0, 2, 3, 4);
        dueWay(x, 0, 4, 100, true, 100);
        dueWay(x, 0, 1, 50, false, 50);
        dueWay(x, 1, 3, 50, false, 50);
        dueWay(x, 3, 1, 50, false, 50);
        dueRow(x, 0, 4, 2, 3);
    }

    private static void placeByAWayAboveAllOthers() {
        edge = "placing: the greatest way of all";
        BlockRows x = allHot(4);
        dueWay(x, 0, 3, 100, true, 100);
        dueWay(x, 2, 3, 900, false, 900);
        dueRow(x, 0, 3, 2, 1);
    }

    private static void placeAnewAfterEachChange() {
        edge = "placing: asked after each change";
        BlockRows x = allHot(6);
        dueWay(x, 0, 5, 10, true, 10);
        dueWay(x, 3, 4, 90, true, 90);
        dueWay(x, 4, 3, 80, false, 80);
        dueWay(x, 5, 2, 7, false, 7);
        // What was placed before must not draw at what is placed now.
        dueRow(x, 0, 5, 2, 1, 3, 4);
        dueWay(x, 5, 1, 8, false, 8);
        dueRow(x, 0, 5, 1, 2, 3, 4);
        dueHeat(x, 5, false, true);
        dueRow(x, 0, 1, 2, 3, 4);
        dueHeat(x, 5, true, true);
        dueRow(x, 0, 5, 1, 2, 3, 4);
    }

    private static void placeBySumsBeyondInt() {
        edge = "placing: sums beyond int";
        BlockRows x = allHot(4);
        dueWay(x, 0, 3, 100, true, 100);
        dueWay(x, 0, 1, MOST_TOLD, false, MOST_TOLD);
        dueWay(x, 0, 2, MOST_TOLD, false, MOST_TOLD);
        dueWay(x, 2, 0, MOST_TOLD, false, MOST_TOLD);
        dueWay(x, 2, 3, MOST_TOLD, false, MOST_TOLD);
        dueRow(x, 0, 3, 2, 1);
    }

    // What it is: 512 calls

    private static void calls() {
        callsUpToTheLast();
        callsBehindTheLast();
    }

    // One size, 200 heats, 110 ways, 1 length and 200 rows are 512 calls; each answer is promised.
    private static void callsUpToTheLast() {
        edge = "calls: all 512";
        BlockRows x = allHot(200);
        for (int w = 0; w < 110; w++) {
            dueWay(x, 2 * (w % 99) + 2, 2 * (w % 99) + 1, 1, true, w / 99 + 1);
        }
        due("length()", x.length(), 200);
        due("row(0)", x.row(0), 0);
        for (int k = 1; k < 199; k++) {
            due("row(" + k + ")", x.row(k), k % 2 == 1 ? k + 1 : k - 1);
        }
        due("row(199)", x.row(199), 199);
    }

    private static void callsBehindTheLast() {
        edge = "calls: more than 512, where answers are free";
        BlockRows x = new BlockRows();
        int[] odd = {LEAST, -201, -1, 0, 1, 199, 200, 201, 1000, GREATEST};
        for (int times = 0; times < 100; times++) {
            for (int number : odd) {
                tryAll(x, number, odd[times % odd.length]);
            }
        }
    }

    // Nothing is looked at but that every call comes back.
    private static void tryAll(BlockRows x, int a, int b) {
        x.heat(a, b > 0);
        x.way(a, b, b, true);
        x.way(b, a, 1, a > 0);
        x.count(a, b);
        x.length();
        x.row(a);
        x.weight(a);
        x.chain(a);
        x.size(b);
    }
}
