/** Each promise of the document: ordinary inputs, the edges that it names, and wrong inputs. */
public final class PromisesTest {
    private static final int LEAST = Integer.MIN_VALUE;
    private static final int GREATEST = Integer.MAX_VALUE;
    private static int wrong = 0;

    private static void due(String what, long got, long want) {
        if (got != want) {
            wrong++;
            System.out.println(what + " answered " + got + ", due is " + want);
        }
    }

    private static void due(String what, boolean got, boolean want) {
        due(what, got ? 1L : 0L, want ? 1L : 0L);
    }

    private static void dueRow(String what, BlockRows x, int... want) {
        due(what + ": length", x.length(), want.length);
        due(what + ": row(-1)", x.row(-1), -1);
        for (int k = 0; k < want.length; k++) {
            due(what + ": row(" + k + ")", x.row(k), want[k]);
        }
        due(what + ": row(" + want.length + ")", x.row(want.length), -1);
    }

    private static void dueWeights(String what, BlockRows x, long... want) {
        for (int k = 0; k < want.length; k++) {
            due(what + ": weight(" + k + ")", x.weight(k), want[k]);
        }
    }

    private static void dueChains(String what, BlockRows x, int... want) {
        for (int b = 0; b < want.length; b++) {
            due(what + ": chain(" + b + ")", x.chain(b), want[b]);
        }
    }

    private static BlockRows sized(int n) {
        BlockRows x = new BlockRows();
        due("size(" + n + ")", x.size(n), true);
        return x;
    }

    private static BlockRows allHot(int n) {
        BlockRows x = sized(n);
        for (int b = 0; b < n; b++) {
            due("heat(" + b + ", true)", x.heat(b, true), true);
        }
        return x;
    }

    public static void main(String[] args) {
        newObject();
        newObjectsAreApart();
        sizeTakesItsRange();
        sizeBeginsAnew();
        refusedSizeChangesNothing();
        heatTurnsOnAndOff();
        heatOfNoBlock();
        waySums();
        wayRefusesBlocks();
        wayRefusesCounts();
        refusedWayChangesNothing();
        wayFallsAsLastTold();
        wayHasAtMostThousand();
        wayHasAMostCount();
        countOfWays();
        lengthIsOfHotBlocks();
        rowOfChains();
        rowByNumberUnlessChainsWeighMore();
        joinsGreaterCountFirst();
        joinsEqualCountsByBlocks();
        joinsNothingBeforeBlockZero();
        joinsNoRing();
        joinsOnlyFallingHotCountedWays();
        joinsWholeChains();
        placesLeastBlockFirst();
        placesGreatestSumNext();
        placesEqualSumsByLeastBlock();
        placesByHotBlocksAlone();
        weightsOfAllKinds();
        weightOfAnotherNumber();
        weightOfGreatCounts();
        chainsStandWithoutTheRow();
        chainOfNoHotBlock();
        largestRow();
        System.out.println(wrong == 0 ? "all answers are as due" : wrong + " answers are not as due");
        if (wrong != 0) {
            System.exit(1);
        }
    }

    // Promise 1

    private static void newObject() {
        BlockRows x = new BlockRows();
        dueRow("new", x);
        dueWeights("new", x, 0, 0, 0, 0);
        due("new: chain(0)", x.chain(0), -1);
        due("new: count(0, 0)", x.count(0, 0), 0);
        due("new: heat(1)", x.heat(1, true), false);
        due("new: way(0, 1)", x.way(0, 1, 1, true), -1);
        due("new: heat(0)", x.heat(0, true), true);
        dueRow("new, 0 hot", x, 0);
    }

    private static void newObjectsAreApart() {
        BlockRows x = allHot(2);
        x.way(0, 1, 4, true);
        BlockRows y = new BlockRows();
        dueRow("second object", y);
        due("second object: heat(1)", y.heat(1, true), false);
        due("first object: count(0, 1)", x.count(0, 1), 4);
    }

    // Promise 2

    private static void sizeTakesItsRange() {
        BlockRows x = new BlockRows();
        int[] refused = {0, 201, -1, -200, LEAST, GREATEST};
        for (int n : refused) {
            due("size(" + n + ")", x.size(n), false);
        }
        int[] taken = {200, 1, 2, 199};
        for (int n : taken) {
            due("size(" + n + ")", x.size(n), true);
            due("size(" + n + "): last block", x.heat(n - 1, true), true);
            due("size(" + n + "): one behind it", x.heat(n, true), false);
        }
    }

    private static void sizeBeginsAnew() {
        BlockRows x = allHot(4);
        x.way(3, 2, 5, true);
        x.way(0, 0, 6, true);
        dueRow("before size", x, 0, 1, 3, 2);
        due("size(4) again", x.size(4), true);
        dueRow("after size", x);
        dueWeights("after size", x, 0, 0, 0, 0);
        dueChains("after size", x, -1, -1, -1, -1);
        due("after size: count(3, 2)", x.count(3, 2), 0);
        due("after size: count(0, 0)", x.count(0, 0), 0);
        due("after size: way(3, 2)", x.way(3, 2, 1, true), 1);
        x.heat(3, true);
        due("size(2)", x.size(2), true);
        due("size(4) at last", x.size(4), true);
        dueRow("smaller and greater again", x);
        due("smaller and greater again: count(3, 2)", x.count(3, 2), 0);
    }

    private static void refusedSizeChangesNothing() {
        BlockRows x = allHot(3);
        x.way(2, 1, 5, true);
        x.size(0);
        x.size(201);
        dueRow("after refused sizes", x, 0, 2, 1);
        due("after refused sizes: count", x.count(2, 1), 5);
        due("after refused sizes: heat(3)", x.heat(3, true), false);
    }

    // Promise 3

    private static void heatTurnsOnAndOff() {
        BlockRows x = sized(3);
        due("heat(2, true)", x.heat(2, true), true);
        due("heat(2, true) again", x.heat(2, true), true);
        dueRow("2 hot", x, 2);
        due("heat(0, false) of a cold one", x.heat(0, false), true);
        dueRow("2 hot still", x, 2);
        due("heat(0, true)", x.heat(0, true), true);
        dueRow("0 and 2 hot", x, 0, 2);
        due("heat(2, false)", x.heat(2, false), true);
        dueRow("0 hot", x, 0);
        dueChains("0 hot", x, 0, -1, -1);
    }

    private static void heatOfNoBlock() {
        BlockRows x = sized(3);
        int[] none = {-1, 3, 4, 199, 200, 201, LEAST, GREATEST};
        for (int b : none) {
            due("heat(" + b + ", true)", x.heat(b, true), false);
            due("heat(" + b + ", false)", x.heat(b, false), false);
        }
        dueRow("no block was hot", x);
        x.size(200);
        dueRow("nor is it after size", x);
    }

    // Promise 4

    private static void waySums() {
        BlockRows x = sized(3);
        due("way 5", x.way(0, 1, 5, true), 5);
        due("way 5 + 0", x.way(0, 1, 0, true), 5);
        due("way 5 + 7", x.way(0, 1, 7, false), 12);
        due("way back", x.way(1, 0, 3, true), 3);
        due("way to itself", x.way(1, 1, 2, true), 2);
        due("way to itself again", x.way(1, 1, 1000000000, false), 1000000002L);
        due("way of 0", x.way(2, 0, 0, true), 0);
        due("way 12 + 1", x.way(0, 1, 1, true), 13);
    }

    private static void wayRefusesBlocks() {
        BlockRows x = sized(3);
        int[] none = {-1, 3, 199, 200, LEAST, GREATEST};
        for (int b : none) {
            due("way(" + b + ", 0)", x.way(b, 0, 1, true), -1);
            due("way(0, " + b + ")", x.way(0, b, 1, true), -1);
            due("way(" + b + ", " + b + ")", x.way(b, b, 1, true), -1);
            due("way(" + b + ", 0) with a wrong count", x.way(b, 0, -1, true), -1);
            due("way(2, " + b + ") with a wrong count", x.way(2, b, 1000000001, true), -1);
        }
    }

    private static void wayRefusesCounts() {
        BlockRows x = sized(3);
        int[] counts = {-1, 1000000001, LEAST, GREATEST};
        for (int count : counts) {
            due("way with count " + count, x.way(0, 1, count, true), -2);
        }
        due("way with the least count", x.way(0, 1, 0, true), 0);
        due("way with the greatest count", x.way(0, 1, 1000000000, true), 1000000000L);
    }

    private static void refusedWayChangesNothing() {
        BlockRows x = allHot(2);
        x.way(0, 1, 5, true);
        x.way(0, 1, -1, false);
        x.way(0, 1, 1000000001, false);
        x.way(0, 2, 1, false);
        due("refused ways: count", x.count(0, 1), 5);
        due("refused ways: weight(1)", x.weight(1), 5);
    }

    private static void wayFallsAsLastTold() {
        BlockRows x = allHot(2);
        x.way(0, 1, 5, true);
        due("falls", x.weight(1), 5);
        x.way(0, 1, 0, false);
        due("falls no more", x.weight(1), 0);
        due("falls no more: count", x.count(0, 1), 5);
        dueChains("falls no more", x, 0, 1);
        x.way(0, 1, 1, true);
        due("falls again", x.weight(1), 6);
        dueChains("falls again", x, 0, 0);
    }

    // The limit lies beyond an object's 512 calls; that it holds there too keeps the rows in bounds.
    private static void wayHasAtMostThousand() {
        BlockRows x = sized(200);
        for (int w = 0; w < 1000; w++) {
            due("way " + w, x.way(w / 200, w % 200, w, true), w);
        }
        due("way 1000", x.way(5, 0, 1, true), -3);
        due("way 1000, wrong block", x.way(5, 200, 1, true), -1);
        due("way 1000, wrong count", x.way(5, 0, -1, true), -2);
        due("way 1000: count", x.count(5, 0), 0);
        due("way 0 told again", x.way(0, 0, 3, true), 3);
        due("way 999 told again", x.way(4, 199, 1, false), 1000);
        due("size after many ways", x.size(200), true);
        due("way after size", x.way(5, 0, 1, true), 1);
    }

    private static void wayHasAMostCount() {
        BlockRows x = allHot(2);
        for (int told = 1; told < 1000000; told++) {
            x.way(0, 1, 1000000000, true);
        }
        due("way short of 10^15", x.way(0, 1, 999999999, true), 999999999999999L);
        due("way at 10^15", x.way(0, 1, 1, true), 1000000000000000L);
        due("way above 10^15", x.way(0, 1, 1, true), 1000000000000000L);
        due("way far above 10^15", x.way(0, 1, 1000000000, true), 1000000000000000L);
        due("count at 10^15", x.count(0, 1), 1000000000000000L);
    }

    // Promise 5

    private static void countOfWays() {
        BlockRows x = sized(3);
        x.way(0, 1, 5, false);
        x.way(2, 2, 0, true);
        due("count", x.count(0, 1), 5);
        due("count back", x.count(1, 0), 0);
        due("count of 0", x.count(2, 2), 0);
        int[] none = {-1, 3, 200, LEAST, GREATEST};
        for (int b : none) {
            due("count(" + b + ", 1)", x.count(b, 1), 0);
            due("count(0, " + b + ")", x.count(0, b), 0);
        }
        x.way(0, 2, 9, true);
        x.way(1, 2, 7, true);
        due("count among others", x.count(0, 1), 5);
        due("count of the greatest", x.count(0, 2), 9);
        due("count of the middle", x.count(1, 2), 7);
    }

    // Promise 6

    private static void lengthIsOfHotBlocks() {
        BlockRows x = sized(200);
        due("length, none hot", x.length(), 0);
        for (int b = 0; b < 200; b++) {
            x.heat(b, true);
            due("length, hot up to " + b, x.length(), b + 1);
        }
        x.heat(100, false);
        x.heat(100, false);
        due("length, one cold", x.length(), 199);
        x.size(5);
        due("length after size", x.length(), 0);
    }

    // Promise 7

    private static void rowOfChains() {
        BlockRows x = allHot(4);
        x.way(0, 3, 5, true);
        x.way(3, 1, 4, true);
        dueRow("chained", x, 0, 3, 1, 2);
        due("row(MIN)", x.row(LEAST), -1);
        due("row(MAX)", x.row(GREATEST), -1);
        due("row(200)", x.row(200), -1);
    }

    private static void rowByNumberUnlessChainsWeighMore() {
        BlockRows x = allHot(4);
        x.way(0, 2, 6, true);
        x.way(0, 1, 3, true);
        x.way(1, 2, 3, true);
        dueWeights("equal weights", x, 6, 6, 6, 6);
        dueRow("equal weights", x, 0, 1, 2, 3);
        x.way(0, 2, 1, true);
        dueWeights("chains weigh more", x, 7, 6, 6, 7);
        dueRow("chains weigh more", x, 0, 2, 1, 3);
        x.way(0, 1, 2, true);
        dueWeights("chains weigh less", x, 8, 8, 8, 7);
        dueRow("chains weigh less", x, 0, 1, 2, 3);
    }

    private static void joinsGreaterCountFirst() {
        BlockRows x = allHot(4);
        x.way(0, 1, 5, true);
        x.way(0, 3, 6, true);
        dueChains("greater count", x, 0, 1, 2, 0);
        x.way(0, 1, 2, true);
        dueChains("greater count after more", x, 0, 0, 2, 3);
        x.way(2, 1, 8, true);
        dueChains("greater count into 1", x, 0, 2, 2, 0);
    }

    private static void joinsEqualCountsByBlocks() {
        BlockRows x = allHot(5);
        x.way(3, 4, 5, true);
        x.way(1, 4, 5, true);
        x.way(2, 4, 5, true);
        dueChains("lesser first block", x, 0, 1, 2, 3, 1);
        BlockRows y = allHot(5);
        y.way(0, 4, 5, true);
        y.way(0, 2, 5, true);
        y.way(0, 3, 5, true);
        dueChains("lesser second block", y, 0, 1, 0, 3, 4);
        // Were the second block looked at before the first one, 3 would begin this chain.
        BlockRows z = allHot(5);
        z.way(1, 3, 5, true);
        z.way(2, 1, 5, true);
        z.way(3, 2, 5, true);
        dueChains("a ring opens at its last way", z, 0, 2, 2, 2, 4);
    }

    private static void joinsNothingBeforeBlockZero() {
        BlockRows x = allHot(3);
        x.way(2, 0, 50, true);
        x.way(0, 2, 1, true);
        dueChains("into block 0", x, 0, 1, 0);
        dueRow("into block 0", x, 0, 2, 1);
        dueWeights("into block 0", x, 1, 0, 0, 1);
    }

    private static void joinsNoRing() {
        BlockRows x = allHot(4);
        x.way(3, 3, 90, true);
        x.way(3, 1, 8, true);
        x.way(1, 3, 7, true);
        x.way(3, 2, 6, true);
        dueChains("ring", x, 0, 3, 2, 3);
        dueRow("ring", x, 0, 3, 1, 2);
        dueWeights("ring", x, 8, 0, 0, 8);
    }

    private static void joinsOnlyFallingHotCountedWays() {
        BlockRows x = allHot(5);
        x.way(1, 4, 9, false);
        x.way(1, 3, 0, true);
        dueChains("not falling, or 0", x, 0, 1, 2, 3, 4);
        x.way(1, 2, 9, true);
        x.heat(2, false);
        dueChains("cold second", x, 0, 1, -1, 3, 4);
        x.heat(2, true);
        x.heat(1, false);
        dueChains("cold first", x, 0, -1, 2, 3, 4);
        x.heat(1, true);
        dueChains("both hot", x, 0, 1, 1, 3, 4);
    }

    private static void joinsWholeChains() {
        BlockRows x = allHot(6);
        x.way(5, 4, 9, true);
        x.way(3, 2, 9, true);
        x.way(2, 1, 9, true);
        x.way(4, 3, 5, true);
        dueChains("chains of two and three", x, 0, 5, 5, 5, 5, 5);
        dueRow("chains of two and three", x, 0, 5, 4, 3, 2, 1);
        x.way(0, 4, 8, true);
        dueChains("into the middle", x, 0, 5, 5, 5, 5, 5);
        x.way(0, 5, 1, true);
        dueChains("into the first", x, 0, 0, 0, 0, 0, 0);
    }

    private static void placesLeastBlockFirst() {
        BlockRows x = allHot(5);
        x.heat(0, false);
        x.way(4, 1, 5, true);
        x.way(3, 2, 90, true);
        dueRow("least block inside its chain", x, 4, 1, 3, 2);
        x.heat(0, true);
        dueRow("block 0 is hot", x, 0, 4, 1, 3, 2);
    }

    private static void placesGreatestSumNext() {
        BlockRows x = allHot(7);
        x.way(0, 6, 100, true);
        x.way(1, 0, 3, false);
        x.way(6, 4, 2, false);
        x.way(4, 0, 2, false);
        x.way(4, 3, 5, true);
        x.way(3, 2, 50, false);
        x.way(5, 6, 1, true);
        // Sums to {0, 6}: 1 has 3, {4, 3} has 4, 5 has 1; then 2 has 50 to {4, 3}.
        dueRow("greatest sums", x, 0, 6, 4, 3, 2, 1, 5);
        x.way(0, 1, 2, false);
        dueRow("sums of both directions", x, 0, 6, 1, 4, 3, 2, 5);
        x.way(5, 5, 900, true);
        dueRow("a way to itself pulls at nothing", x, 0, 6, 1, 4, 3, 2, 5);
        x.way(2, 5, 900, true);
        dueRow("nor does one between blocks not placed", x, 0, 6, 1, 4, 3, 2, 5);
        dueChains("5 goes behind 2", x, 0, 1, 2, 4, 4, 2, 0);
    }

    private static void placesEqualSumsByLeastBlock() {
        BlockRows x = allHot(7);
        x.way(0, 5, 100, true);
        x.way(6, 1, 9, true);
        x.way(3, 4, 9, true);
        // All sums to {0, 5} are 0; by first blocks 2 and {3, 4} would come before {6, 1}.
        dueRow("no sums", x, 0, 5, 6, 1, 2, 3, 4);
        x.way(5, 2, 4, false);
        x.way(4, 5, 4, false);
        dueRow("equal sums", x, 0, 5, 2, 3, 4, 6, 1);
        x.way(6, 0, 4, false);
        dueRow("three equal sums", x, 0, 5, 6, 1, 2, 3, 4);
    }

    private static void placesByHotBlocksAlone() {
        BlockRows x = allHot(5);
        x.heat(1, false);
        x.way(0, 3, 10, true);
        x.way(1, 4, 90, true);
        x.way(4, 1, 90, true);
        x.way(2, 0, 1, false);
        dueRow("cold blocks pull at nothing", x, 0, 3, 2, 4);
        x.heat(1, true);
        dueRow("now it is hot", x, 0, 3, 2, 1, 4);
    }

    // Promise 8

    private static void weightsOfAllKinds() {
        BlockRows x = allHot(6);
        x.heat(2, false);
        x.way(0, 1, 10, true);
        x.way(1, 2, 20, true);
        x.way(2, 3, 40, true);
        x.way(1, 3, 80, true);
        x.way(3, 4, 160, false);
        x.way(4, 3, 320, true);
        x.way(4, 4, 640, true);
        // Chains: 4 3, 0 1, 5; by number 0 1 3 4 5.
        dueWeights("all kinds", x, 330, 90, 70, 330);
        dueRow("all kinds", x, 0, 1, 4, 3, 5);
        x.way(4, 3, 0, false);
        dueWeights("4 -> 3 falls no more", x, 90, 90, 70, 90);
        x.way(0, 3, 85, true);
        // Now 0 goes on into 3, and 1 is left alone.
        dueWeights("chains weigh less", x, 90, 90, 70, 85);
    }

    private static void weightOfAnotherNumber() {
        BlockRows x = allHot(3);
        x.way(0, 1, 4, true);
        int[] others = {-1, 4, 5, 9, LEAST, GREATEST};
        for (int what : others) {
            due("weight(" + what + ")", x.weight(what), -1);
        }
    }

    private static void weightOfGreatCounts() {
        BlockRows x = allHot(4);
        for (int b = 3; b > 0; b--) {
            x.way(b, b - 1, 1000000000, true);
            x.way(b, b - 1, 1000000000, true);
        }
        dueWeights("counts beyond int", x, 4000000000L, 0, 0, 4000000000L);
        dueRow("counts beyond int", x, 0, 3, 2, 1);
    }

    // Promise 9

    private static void chainsStandWithoutTheRow() {
        BlockRows x = allHot(3);
        x.way(0, 1, 5, true);
        x.way(1, 2, 5, true);
        x.way(0, 2, 6, true);
        dueRow("row by number", x, 0, 1, 2);
        dueWeights("row by number", x, 10, 10, 10, 6);
        dueChains("row by number", x, 0, 1, 0);
    }

    private static void chainOfNoHotBlock() {
        BlockRows x = allHot(3);
        x.heat(1, false);
        due("chain of a cold block", x.chain(1), -1);
        int[] none = {-1, 3, 199, 200, LEAST, GREATEST};
        for (int b : none) {
            due("chain(" + b + ")", x.chain(b), -1);
        }
        dueChains("chains of one", x, 0, -1, 2);
    }

    // All promises together on 200 blocks; 512 calls leave room to ask for every second place.

    private static void largestRow() {
        largestRow(0);
        largestRow(1);
    }

    private static void largestRow(int start) {
        BlockRows x = allHot(200);
        for (int b = 199; b > 1; b--) {
            due("way(" + b + ")", x.way(b, b - 1, 1, true), 1);
        }
        dueWeights("largest", x, 198, 0, 0, 198);
        due("largest: chain(1)", x.chain(1), 199);
        for (int k = start; k < 200; k += 2) {
            due("largest: row(" + k + ")", x.row(k), k == 0 ? 0 : 200 - k);
        }
        due("way(0)", x.way(0, 199, 1, true), 1);
        due("largest, all in one: chain(1)", x.chain(1), 0);
        due("largest, all in one: row(1)", x.row(1), 199);
        due("largest, all in one: row(199)", x.row(199), 1);
    }
}
