/** Each sentence of the document's section "Terms"; where the cases are few, all of them are tried. */
public final class TermsTest {
    private static final int MOST_TOLD = 1000000000;
    private static final long MOST_COUNT = 1000000000000000L;

    private static int wrong = 0;
    private static String term = "";

    private static void due(String call, long got, long want) {
        if (got != want) {
            wrong++;
            System.out.println(term + ": " + call + " answered " + got + ", due is " + want);
        }
    }

    private static void due(String call, boolean got, boolean want) {
        due(call, got ? 1L : 0L, want ? 1L : 0L);
    }

    private static void dueWay(BlockRows x, int u, int v, int count, boolean falls, long want) {
        due("way(" + u + ", " + v + ", " + count + ", " + falls + ")", x.way(u, v, count, falls), want);
    }

    private static void dueCount(BlockRows x, int u, int v, long want) {
        due("count(" + u + ", " + v + ")", x.count(u, v), want);
    }

    private static void dueWeight(BlockRows x, int what, long want) {
        due("weight(" + what + ")", x.weight(what), want);
    }

    private static void dueRow(BlockRows x, int... want) {
        due("length()", x.length(), want.length);
        for (int k = 0; k < want.length; k++) {
            due("row(" + k + ")", x.row(k), want[k]);
        }
    }

    private static void dueChains(BlockRows x, int... want) {
        for (int b = 0; b < want.length; b++) {
            due("chain(" + b + ")", x.chain(b), want[b]);
        }
    }

    private static BlockRows sized(int n) {
        BlockRows x = new BlockRows();
        due("size(" + n + ")", x.size(n), true);
        return x;
    }

    private static void heatAll(BlockRows x, int n) {
        for (int b = 0; b < n; b++) {
            due("heat(" + b + ", true)", x.heat(b, true), true);
        }
    }

    private static BlockRows allHot(int n) {
        BlockRows x = sized(n);
        heatAll(x, n);
        return x;
    }

    private static boolean isIn(int set, int b) {
        return (set >> b & 1) == 1;
    }

    private static void heatSet(BlockRows x, int n, int set) {
        for (int b = 0; b < n; b++) {
            due("heat(" + b + ", " + isIn(set, b) + ")", x.heat(b, isIn(set, b)), true);
        }
    }

    public static void main(String[] args) {
        blocks();
        counts();
        onlyOneWay();
        weight();
        chainsOfOne();
        joining();
        placing();
        byNumber();
        System.out.println(wrong == 0 ? "all answers are as due" : wrong + " answers are not as due");
        if (wrong != 0) {
            System.exit(1);
        }
    }

    // "There are n BLOCKS 0 .. n - 1 (1 .. 200; 1 at first), each HOT or not, and WAYS between two
    // blocks, each with a COUNT (sums of what is told; at most 10^15, more is 10^15), and FALLING
    // or not."

    private static void blocks() {
        oneBlockAtFirst();
        blocksOfEverySize();
        noOtherSize();
        eachBlockHotOrNot();
    }

    private static void oneBlockAtFirst() {
        term = "one block at first";
        BlockRows x = new BlockRows();
        due("heat(-1, true)", x.heat(-1, true), false);
        due("heat(0, true)", x.heat(0, true), true);
        due("heat(1, true)", x.heat(1, true), false);
        dueRow(x, 0);
    }

    private static void blocksOfEverySize() {
        for (int n = 1; n <= 200; n++) {
            term = n + " blocks";
            BlockRows x = allHot(n);
            due("heat(" + n + ", true)", x.heat(n, true), false);
            due("length()", x.length(), n);
            dueWay(x, n - 1, 0, 1, true, 1);
            dueWay(x, n, 0, 1, true, -1);
            dueWay(x, 0, n, 1, true, -1);
        }
    }

    private static void noOtherSize() {
        term = "no other size";
        BlockRows x = new BlockRows();
        for (int n = 201; n < 400; n++) {
            due("size(" + n + ")", x.size(n), false);
            due("size(" + (201 - n) + ")", x.size(201 - n), false);
        }
    }

    private static void eachBlockHotOrNot() {
        for (int one = 0; one < 200; one++) {
            term = "block " + one + " alone is hot";
            BlockRows x = sized(200);
            due("heat(" + one + ", true)", x.heat(one, true), true);
            dueRow(x, one);
            for (int b = 0; b < 200; b++) {
                due("chain(" + b + ")", x.chain(b), b == one ? one : -1);
            }
            due("heat(" + one + ", false)", x.heat(one, false), true);
            dueRow(x);
        }
    }

    private static void counts() {
        eachWayHasACount();
        countIsASum();
        countIsAtMost();
        eachWayFallsOrNot();
    }

    private static void eachWayHasACount() {
        term = "each way has a count";
        BlockRows x = sized(15);
        for (int w = 0; w < 225; w++) {
            int count = w * 89 % 225 + 1;
            dueWay(x, w / 15, w % 15, count, w % 2 == 0, count);
        }
        for (int w = 0; w < 225; w++) {
            dueCount(x, w / 15, w % 15, w * 89 % 225 + 1);
        }
    }

    private static void countIsASum() {
        term = "a count is a sum of what is told";
        BlockRows x = sized(3);
        long sum = 0;
        for (int told = 0; told < 100; told++) {
            sum += told * 10000000L;
            dueWay(x, 2, 1, told * 10000000, true, sum);
            dueWay(x, 1, 2, 1, true, told + 1);
            dueCount(x, 2, 1, sum);
        }
    }

    // No object gets there in 512 calls, behind which answers are free; the class keeps the bound.
    private static void countIsAtMost() {
        term = "a count is at most 10^15";
        BlockRows x = sized(2);
        for (long told = 1; told < 1000000; told++) {
            x.way(1, 0, MOST_TOLD, true);
        }
        dueCount(x, 1, 0, MOST_COUNT - MOST_TOLD);
        dueWay(x, 1, 0, MOST_TOLD - 1, true, MOST_COUNT - 1);
        dueWay(x, 1, 0, 2, true, MOST_COUNT);
        dueWay(x, 1, 0, MOST_TOLD, true, MOST_COUNT);
        dueCount(x, 1, 0, MOST_COUNT);
    }

    // All sixteen ways of letting the four ways by number of five blocks fall or not.
    private static void eachWayFallsOrNot() {
        term = "each way falls or not";
        BlockRows x = sized(5);
        for (int set = 0; set < 16; set++) {
            for (int b = 0; b < 4; b++) {
                long told = set == 0 ? 1 << b : 0;
                dueWay(x, b, b + 1, (int) told, isIn(set, b), 1 << b);
            }
            dueWeight(x, 2, set);
        }
    }

    // "There is at most one way from a block to another one; from a block to itself too."

    private static void onlyOneWay() {
        toldAgainIsTheSameWay();
        toItselfIsAWay();
        toldAgainFillsNoRoom();
    }

    private static void toldAgainIsTheSameWay() {
        term = "at most one way from a block to another";
        BlockRows x = allHot(2);
        dueWay(x, 0, 1, 3, true, 3);
        dueWay(x, 0, 1, 4, true, 7);
        dueWeight(x, 1, 7);
        // Were there two ways, the one told first would still fall.
        dueWay(x, 0, 1, 5, false, 12);
        dueWeight(x, 1, 0);
        dueWay(x, 0, 1, 0, true, 12);
        dueWeight(x, 1, 12);
        dueCount(x, 1, 0, 0);
    }

    private static void toItselfIsAWay() {
        term = "at most one way from a block to itself";
        BlockRows x = sized(3);
        for (int b = 0; b < 3; b++) {
            dueWay(x, b, b, b + 1, true, b + 1);
            dueWay(x, b, b, 10, false, b + 11);
        }
        for (int b = 0; b < 3; b++) {
            dueCount(x, b, b, b + 11);
        }
    }

    // This too shows only beyond 512 calls.
    private static void toldAgainFillsNoRoom() {
        term = "a way told again is not one more of the 1000";
        BlockRows x = sized(2);
        for (int told = 1; told <= 1100; told++) {
            dueWay(x, 0, 1, 1, true, told);
            dueWay(x, 1, 1, 1, true, told);
        }
        dueWay(x, 1, 0, 1, true, 1);
    }

    // "The WEIGHT of a row of blocks is the sum of the counts of all falling ways from a block to
    // the one right behind it."

    // Every way between five blocks has a power of two of its own, so a sum shows what is in it.
    private static BlockRows powers(int mostFalling) {
        BlockRows x = sized(5);
        for (int w = 0; w < 25; w++) {
            dueWay(x, w / 5, w % 5, 1 << w, w % mostFalling != 1, 1 << w);
        }
        return x;
    }

    private static long powerOf(int u, int v, int mostFalling) {
        int w = u * 5 + v;
        return w % mostFalling != 1 ? 1L << w : 0L;
    }

    private static void weight() {
        for (int mostFalling = 2; mostFalling <= 7; mostFalling++) {
            weightOfEachHotSet(mostFalling);
        }
    }

    private static void weightOfEachHotSet(int mostFalling) {
        BlockRows x = powers(mostFalling);
        for (int set = 0; set < 32; set++) {
            term = "weight, hot set " + set + ", one in " + mostFalling + " not falling";
            heatSet(x, 5, set);
            dueWeight(x, 0, weightOfShownRow(x, mostFalling));
            dueWeight(x, 1, weightOfSet(set, mostFalling));
            dueWeight(x, 2, weightOfSet(31, mostFalling));
        }
    }

    private static long weightOfShownRow(BlockRows x, int mostFalling) {
        long sum = 0;
        for (int k = 1; k < x.length(); k++) {
            sum += powerOf(x.row(k - 1), x.row(k), mostFalling);
        }
        return sum;
    }

    private static long weightOfSet(int set, int mostFalling) {
        long sum = 0;
        int before = -1;
        for (int b = 0; b < 5; b++) {
            if (isIn(set, b)) {
                sum += before < 0 ? 0 : powerOf(before, b, mostFalling);
                before = b;
            }
        }
        return sum;
    }

    // "ROW: hot blocks are CHAINS of one."

    private static void chainsOfOne() {
        for (int set = 0; set < 64; set++) {
            term = "chains of one, hot set " + set;
            BlockRows x = sized(6);
            heatSet(x, 6, set);
            due("length()", x.length(), Integer.bitCount(set));
            for (int b = 0; b < 6; b++) {
                due("chain(" + b + ")", x.chain(b), isIn(set, b) ? b : -1);
            }
        }
    }

    // "Falling ways between hot blocks, with a count above 0, are looked at, the greater count
    // first, of equal ones the lesser first block, then the lesser second one: is the first block
    // the last of its chain, the second the first of another chain, and the second not block 0, the
    // chains become one."

    private static void joining() {
        oneWay();
        everyTwoWays();
        chainsOfMoreBecomeOne();
        looksAtAllInOrder();
    }

    // Way w of the sixteen between four blocks goes from w / 4 to w % 4.
    private static boolean goesOn(int w) {
        return w / 4 != w % 4 && w % 4 != 0;
    }

    private static void oneWay() {
        for (int w = 0; w < 16; w++) {
            for (int set = 0; set < 16; set++) {
                boolean bothHot = isIn(set, w / 4) && isIn(set, w % 4);
                oneWay(w, set, 1, true, bothHot && goesOn(w));
                oneWay(w, set, 0, true, false);
                oneWay(w, set, 1, false, false);
                oneWay(w, set, MOST_TOLD, true, bothHot && goesOn(w));
            }
        }
    }

    private static void oneWay(int w, int set, int count, boolean falls, boolean joins) {
        term = "one way " + w / 4 + " -> " + w % 4 + " of " + count + ", falls " + falls + ", hot set " + set;
        BlockRows x = sized(4);
        heatSet(x, 4, set);
        dueWay(x, w / 4, w % 4, count, falls, count);
        for (int b = 0; b < 4; b++) {
            int first = joins && b == w % 4 ? w / 4 : b;
            due("chain(" + b + ")", x.chain(b), isIn(set, b) ? first : -1);
        }
    }

    private static void everyTwoWays() {
        for (int a = 0; a < 16; a++) {
            for (int b = 0; b < 16; b++) {
                if (a != b) {
                    twoWays(a, 2, b, 1, a, b);
                    twoWays(a, 1, b, 2, b, a);
                    twoWays(a, 1, b, 1, Math.min(a, b), Math.max(a, b));
                }
            }
        }
    }

    // Of two ways, the one looked at first joins if it can, and the other if the first lets it.
    private static void twoWays(int a, int countOfA, int b, int countOfB, int before, int after) {
        term = "ways " + a / 4 + " -> " + a % 4 + " of " + countOfA + ", " + b / 4 + " -> " + b % 4 + " of " + countOfB;
        BlockRows x = allHot(4);
        dueWay(x, a / 4, a % 4, countOfA, true, countOfA);
        dueWay(x, b / 4, b % 4, countOfB, true, countOfB);
        int[] back = {-1, -1, -1, -1};
        if (goesOn(before)) {
            back[before % 4] = before / 4;
        }
        if (goesOn(after) && !(goesOn(before) && isInTheWay(before, after))) {
            back[after % 4] = after / 4;
        }
        for (int block = 0; block < 4; block++) {
            int first = block;
            for (int step = 0; step < 4 && back[first] >= 0; step++) {
                first = back[first];
            }
            due("chain(" + block + ")", x.chain(block), first);
        }
    }

    private static boolean isInTheWay(int before, int after) {
        boolean isNotLast = before / 4 == after / 4;
        boolean isNotFirst = before % 4 == after % 4;
        boolean isNotAnother = before / 4 == after % 4 && before % 4 == after / 4;
        return isNotLast || isNotFirst || isNotAnother;
    }

    private static void chainsOfMoreBecomeOne() {
        term = "chains of more than one become one";
        BlockRows x = allHot(8);
        dueWay(x, 1, 7, 9, true, 9);
        dueWay(x, 7, 2, 9, true, 9);
        dueWay(x, 3, 6, 9, true, 9);
        dueWay(x, 6, 4, 9, true, 9);
        dueChains(x, 0, 1, 1, 3, 3, 5, 3, 1);
        // The middle and the wrong end of either chain stay apart.
        dueWay(x, 7, 3, 8, true, 8);
        dueWay(x, 1, 3, 8, true, 8);
        dueWay(x, 2, 6, 8, true, 8);
        dueWay(x, 2, 4, 8, true, 8);
        dueChains(x, 0, 1, 1, 3, 3, 5, 3, 1);
        dueWay(x, 2, 3, 1, true, 1);
        dueChains(x, 0, 1, 1, 1, 1, 5, 1, 1);
        // Last and first of one chain do not close a ring, whatever the count.
        dueWay(x, 4, 1, 7, true, 7);
        dueChains(x, 0, 3, 3, 3, 3, 5, 3, 3);
        dueWay(x, 2, 3, 7, true, 8);
        dueChains(x, 0, 1, 1, 1, 1, 5, 1, 1);
    }

    private static void looksAtAllInOrder() {
        term = "each way is looked at once, in order";
        BlockRows x = allHot(6);
        dueWay(x, 4, 5, 3, true, 3);
        dueWay(x, 3, 5, 4, true, 4);
        dueWay(x, 2, 5, 5, true, 5);
        dueWay(x, 4, 3, 3, true, 3);
        dueWay(x, 4, 1, 2, true, 2);
        // 2 5 comes first; of what is left 4 -> 3 is the first that can join, and 4 -> 1 finds 4 taken.
        dueChains(x, 0, 1, 2, 4, 4, 2);
        // Now 3 5 comes first, and 4 -> 3, before 4 -> 5, goes on into it.
        dueWay(x, 2, 5, 0, false, 5);
        dueChains(x, 0, 1, 2, 4, 4, 4);
    }

    // "Then chains are placed: first that with block 0, if it is hot, else that with the least
    // block; then again and again the one with the greatest sum of counts of all ways (falling or
    // not) from or to blocks that are placed, of equal ones that with the least block."

    // In each test one great way, from a block to a lesser one or past the next, lets the row be by
    // chains.
    private static void placing() {
        firstIsThatWithBlockZero();
        firstIsThatWithTheLeast();
        nextHasTheGreatestSum();
        sumsGrowWithWhatIsPlaced();
        sumsAreOfWholeChains();
        equalSumsGoByTheLeastBlock();
    }

    private static void firstIsThatWithBlockZero() {
        term = "first the chain with block 0";
        BlockRows x = allHot(6);
        dueWay(x, 4, 1, 100, true, 100);
        dueRow(x, 0, 4, 1, 2, 3, 5);
        dueWay(x, 0, 3, 1, true, 1);
        dueRow(x, 0, 3, 4, 1, 2, 5);
        dueWay(x, 2, 0, 900, true, 900);
        dueRow(x, 0, 3, 2, 4, 1, 5);
    }

    private static void firstIsThatWithTheLeast() {
        for (int least = 1; least < 7; least++) {
            term = "first the chain with the least block, " + least;
            BlockRows x = sized(10);
            for (int b = least; b < 10; b++) {
                due("heat(" + b + ", true)", x.heat(b, true), true);
            }
            dueWay(x, 9, least, 5, true, 5);
            dueWay(x, 7, 8, 100, true, 100);
            dueWay(x, 0, 7, 100, true, 100);
            due("row(0)", x.row(0), 9);
            due("row(1)", x.row(1), least);
            dueWeight(x, 3, 105);
        }
    }

    // The chain 0 5 is placed first; 1 to 4 are chains of one, each with a sum of 0 to 2 and with a
    // way of each kind: from 0, to 0 and to 5, where falling joins nothing, and from 5.
    private static void nextHasTheGreatestSum() {
        for (int sums = 0; sums < 81; sums++) {
            for (int kind = 0; kind < 7; kind++) {
                nextHasTheGreatestSum(sums, kind);
            }
        }
    }

    private static int sumOf(int sums, int b) {
        int left = sums;
        for (int k = 1; k < b; k++) {
            left /= 3;
        }
        return left % 3;
    }

    private static void nextHasTheGreatestSum(int sums, int kind) {
        term = "sums " + sums + " in threes, kind " + kind;
        BlockRows x = allHot(6);
        dueWay(x, 0, 5, 100, true, 100);
        for (int b = 1; b <= 4; b++) {
            pull(x, b, sumOf(sums, b), (kind + b) % 7);
        }
        int k = 2;
        for (int sum = 2; sum >= 0; sum--) {
            for (int b = 1; b <= 4; b++) {
                if (sumOf(sums, b) == sum) {
                    due("row(" + k + ")", x.row(k), b);
                    k++;
                }
            }
        }
    }

    private static void pull(BlockRows x, int b, int sum, int kind) {
        int placed = kind < 4 ? 0 : 5;
        boolean falls = kind % 2 == 1;
        boolean isFrom = kind == 0 || kind == 1 || kind == 4;
        dueWay(x, isFrom ? placed : b, isFrom ? b : placed, sum, falls, sum);
    }

    private static void sumsGrowWithWhatIsPlaced() {
        term = "again and again, by all that is placed";
        BlockRows x = allHot(7);
        dueWay(x, 0, 6, 100, true, 100);
        dueWay(x, 6, 5, 1, false, 1);
        dueWay(x, 5, 4, 2, false, 2);
        dueWay(x, 3, 4, 3, false, 3);
        dueWay(x, 3, 2, 4, false, 4);
        dueRow(x, 0, 6, 5, 4, 3, 2, 1);
        // 1 has 1 + 1 from 6 and 5, as much as 4, once 5 is placed.
        dueWay(x, 1, 6, 1, false, 1);
        dueWay(x, 5, 6, 1, false, 1);
        dueWay(x, 1, 5, 1, false, 1);
        dueRow(x, 0, 6, 5, 1, 4, 3, 2);
    }

    private static void sumsAreOfWholeChains() {
        term = "sums are of all blocks of a chain and of all that are placed";
        BlockRows x = allHot(7);
        dueWay(x, 0, 6, 100, true, 100);
        dueWay(x, 4, 3, 100, true, 100);
        dueWay(x, 0, 1, 3, false, 3);
        dueWay(x, 6, 4, 1, false, 1);
        dueWay(x, 4, 0, 1, false, 1);
        dueWay(x, 0, 3, 1, false, 1);
        dueRow(x, 0, 6, 1, 4, 3, 2, 5);
        dueWay(x, 3, 6, 1, false, 1);
        dueRow(x, 0, 6, 4, 3, 1, 2, 5);
        // What goes between chains that are not placed, or within one, is not in a sum.
        dueWay(x, 2, 5, 90, false, 90);
        dueWay(x, 5, 5, 90, false, 90);
        dueRow(x, 0, 6, 4, 3, 1, 2, 5);
    }

    private static void equalSumsGoByTheLeastBlock() {
        term = "of equal sums that with the least block, wherever it is in its chain";
        BlockRows x = allHot(9);
        dueWay(x, 0, 8, 100, true, 100);
        dueWay(x, 4, 7, 100, true, 100);
        dueWay(x, 7, 2, 100, true, 100);
        dueWay(x, 6, 1, 100, true, 100);
        dueRow(x, 0, 8, 6, 1, 4, 7, 2, 3, 5);
        dueWay(x, 8, 5, 2, false, 2);
        dueWay(x, 3, 8, 2, false, 2);
        dueWay(x, 0, 7, 2, false, 2);
        dueRow(x, 0, 8, 4, 7, 2, 3, 5, 6, 1);
    }

    // "Is the WEIGHT of this row not above that of the hot blocks by number, it is these by number."

    // By chains 0 4 1 3 2 weighs what 0 -> 4 is told, by number 0 1 2 3 4 weighs 10.
    private static void byNumber() {
        for (int told = 8; told < 13; told++) {
            term = "by chains " + told + ", by number 10";
            BlockRows x = allHot(5);
            dueWay(x, 0, 1, 5, true, 5);
            dueWay(x, 3, 4, 5, true, 5);
            dueWay(x, 0, 4, told, true, told);
            dueWeight(x, 1, 10);
            dueWeight(x, 3, told);
            if (told > 10) {
                dueWeight(x, 0, told);
                dueRow(x, 0, 4, 1, 3, 2);
            } else {
                dueWeight(x, 0, 10);
                dueRow(x, 0, 1, 2, 3, 4);
            }
        }
        byNumberWithoutColdBlocks();
    }

    private static void byNumberWithoutColdBlocks() {
        term = "by number are the hot blocks, not all";
        BlockRows x = sized(5);
        heatSet(x, 5, 22);
        dueWay(x, 0, 1, 50, true, 50);
        dueWay(x, 2, 3, 50, true, 50);
        dueWay(x, 4, 1, 1, true, 1);
        dueRow(x, 4, 1, 2);
        dueWay(x, 1, 2, 1, true, 1);
        dueWay(x, 2, 4, 1, true, 1);
        dueRow(x, 1, 2, 4);
    }
}
