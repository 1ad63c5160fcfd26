/**
 * A list of pairs, sorted by keys so that equal ones stay in their order: by runs that are found,
 * turned and made longer, put on a pile, and merged as the pile wants it.
 */
public final class PairSorter {
    private static final int MOST_PAIRS = 4096;
    private static final int LEAST_IS_BELOW = 32;
    private static final int LOWEST_LEAST = 16;
    private static final int KEY_SHIFT = 32;
    private static final long TAG_MASK = 0xFFFFFFFFL;

    // A pair is one long, the key in its upper half, so that a key never moves without its tag.
    private final long[] pairs;
    private int size;

    // Only the shorter of two runs is set aside for a merge: half of the list is room enough.
    private final long[] aside;

    private final Pile pile;

    // Of the latest sorting.
    private final int[] runLengths;
    private int runs;
    private int merges;
    private long mergedPairs;

    private int greatestHeight;

    public PairSorter(int cap) {
        int room = Math.max(1, Math.min(MOST_PAIRS, cap));
        // Each run but the last has LEAST pairs; a list for which LEAST is lower is one run.
        int mostRuns = room / LOWEST_LEAST + 1;
        pairs = new long[room];
        aside = new long[room / 2];
        pile = new Pile(mostRuns);
        runLengths = new int[mostRuns];
    }

    public boolean put(int key, int tag) {
        if (size >= pairs.length) {
            return false;
        }
        pairs[size] = pairOf(key, tag);
        size++;
        return true;
    }

    public int fill(int n, int key, int step, int m, int tag) {
        int count = Math.max(0, Math.min(n, pairs.length - size));
        for (int i = 0; i < count; i++) {
            int next = key + i * step;
            pairs[size + i] = pairOf(m > 0 ? Math.floorMod(next, m) : next, tag + i);
        }
        size += count;
        return count;
    }

    public int turn(int i, int n) {
        // size - n cannot overflow once n is known not to be below 0; i + n could.
        if (i < 0 || n < 0 || i > size - n) {
            return 0;
        }
        turnRound(i, n);
        return n;
    }

    public int run() {
        forgetLatestSorting();
        if (size < 2) {
            return 0;
        }
        int least = leastFor(size);
        int start = 0;
        while (start < size && runs < runLengths.length) {
            int length = makeRun(start, least);
            runLengths[runs] = length;
            runs++;
            pile.push(start, length);
            bringInOrder();
            start += length;
        }
        mergeWhatIsLeft();
        greatestHeight = Math.max(greatestHeight, pile.height);
        return pile.height;
    }

    public int keyAt(int i) {
        return isPlace(i) ? keyOf(pairs[i]) : 0;
    }

    public int tagAt(int i) {
        return isPlace(i) ? tagOf(pairs[i]) : 0;
    }

    public int size() {
        return size;
    }

    public int stackHigh() {
        return greatestHeight;
    }

    public long work(int what, int i) {
        switch (what) {
            case 0:
                return runs;
            case 1:
                return merges;
            case 2:
                return mergedPairs;
            case 3:
                return i >= 0 && i < runs ? runLengths[i] : 0;
            default:
                return 0;
        }
    }

    public int sorted(int i) {
        return isPlace(i) ? countNotFalling(i) : 0;
    }

    public void clear() {
        size = 0;
        greatestHeight = 0;
        forgetLatestSorting();
    }

    private void forgetLatestSorting() {
        runs = 0;
        merges = 0;
        mergedPairs = 0;
        pile.empty();
    }

    private boolean isPlace(int i) {
        return i >= 0 && i < size;
    }

    private static long pairOf(int key, int tag) {
        return ((long) key << KEY_SHIFT) | (tag & TAG_MASK);
    }

    private static int keyOf(long pair) {
        return (int) (pair >> KEY_SHIFT);
    }

    private static int tagOf(long pair) {
        return (int) pair;
    }

    private boolean fallsAt(int place) {
        return keyOf(pairs[place]) < keyOf(pairs[place - 1]);
    }

    private int countNotFalling(int start) {
        int end = start + 1;
        while (end < size && !fallsAt(end)) {
            end++;
        }
        return end - start;
    }

    private int countFalling(int start) {
        int end = start + 1;
        while (end < size && fallsAt(end)) {
            end++;
        }
        return end - start;
    }

    private void turnRound(int start, int count) {
        int low = start;
        int high = start + count - 1;
        while (low < high) {
            long pair = pairs[low];
            pairs[low] = pairs[high];
            pairs[high] = pair;
            low++;
            high--;
        }
    }

    private static int leastFor(int count) {
        int least = count;
        int cutOff = 0;
        while (least >= LEAST_IS_BELOW) {
            cutOff |= least & 1;
            least >>= 1;
        }
        return least + cutOff;
    }

    private int makeRun(int start, int least) {
        int found = findRun(start);
        int length = Math.max(found, Math.min(least, size - start));
        for (int place = start + found; place < start + length; place++) {
            insert(start, place);
        }
        return length;
    }

    private int findRun(int start) {
        int falling = countFalling(start);
        if (falling == 1) {
            return countNotFalling(start);
        }
        turnRound(start, falling);
        return falling;
    }

    private void insert(int start, int place) {
        long pair = pairs[place];
        int target = placeBehindEqualKeys(start, place, keyOf(pair));
        System.arraycopy(pairs, target, pairs, target + 1, place - target);
        pairs[target] = pair;
    }

    private int placeBehindEqualKeys(int start, int end, int key) {
        int low = start;
        int high = end;
        while (low < high) {
            int middle = (low + high) >>> 1;
            if (key < keyOf(pairs[middle])) {
                high = middle;
            } else {
                low = middle + 1;
            }
        }
        return low;
    }

    private void bringInOrder() {
        // Each round merges two runs into one, so there are fewer rounds than runs.
        for (int left = pile.count; left >= 2; left--) {
            if (pile.isTooFlat()) {
                mergeAt(pile.placeBelowShorterNeighbour());
            } else if (pile.isTopTooLong()) {
                mergeAt(pile.count - 2);
            } else {
                return;
            }
        }
    }

    private void mergeWhatIsLeft() {
        for (int left = pile.count; left >= 2; left--) {
            mergeAt(pile.placeBelowShorterNeighbour());
        }
    }

    private void mergeAt(int place) {
        int start = pile.starts[place];
        int middle = pile.starts[place + 1];
        int end = middle + pile.lengths[place + 1];
        if (middle - start <= end - middle) {
            mergeForward(start, middle, end);
        } else {
            mergeBackward(start, middle, end);
        }
        pile.join(place);
        merges++;
        mergedPairs += end - start;
    }

    private void mergeForward(int start, int middle, int end) {
        int asideCount = middle - start;
        System.arraycopy(pairs, start, aside, 0, asideCount);
        int first = 0;
        int second = middle;
        int target = start;
        while (first < asideCount && second < end) {
            // Of equal keys, the one of the first run comes first.
            if (keyOf(pairs[second]) < keyOf(aside[first])) {
                pairs[target] = pairs[second];
                second++;
            } else {
                pairs[target] = aside[first];
                first++;
            }
            target++;
        }
        System.arraycopy(aside, first, pairs, target, asideCount - first);
    }

    private void mergeBackward(int start, int middle, int end) {
        int asideCount = end - middle;
        System.arraycopy(pairs, middle, aside, 0, asideCount);
        int first = middle - 1;
        int second = asideCount - 1;
        int target = end - 1;
        while (first >= start && second >= 0) {
            // Of equal keys, the one of the second run comes last.
            if (keyOf(aside[second]) < keyOf(pairs[first])) {
                pairs[target] = pairs[first];
                first--;
            } else {
                pairs[target] = aside[second];
                second--;
            }
            target--;
        }
        // What is left of the first run stands where it belongs already.
        System.arraycopy(aside, 0, pairs, target - second, second + 1);
    }

    /** The runs that wait to be merged; the document's w is the uppermost, below it z, y and x. */
    private static final class Pile {
        private final int[] starts;
        private final int[] lengths;
        private int count;
        private int height;

        private Pile(int most) {
            starts = new int[most];
            lengths = new int[most];
        }

        private void empty() {
            count = 0;
            height = 0;
        }

        private void push(int start, int length) {
            if (count >= lengths.length) {
                return;
            }
            starts[count] = start;
            lengths[count] = length;
            count++;
            height = Math.max(height, count);
        }

        private int fromTop(int depth) {
            return lengths[count - 1 - depth];
        }

        private boolean isTooFlat() {
            return (count >= 3 && fromTop(2) <= fromTop(1) + fromTop(0))
                || (count >= 4 && fromTop(3) <= fromTop(2) + fromTop(1));
        }

        private boolean isTopTooLong() {
            return count >= 2 && fromTop(1) <= fromTop(0);
        }

        /** The lower place of the two to be merged: y and z if y is below w, otherwise z and w. */
        private int placeBelowShorterNeighbour() {
            return count >= 3 && fromTop(2) < fromTop(0) ? count - 3 : count - 2;
        }

        private void join(int place) {
            lengths[place] += lengths[place + 1];
            count--;
            for (int i = place + 1; i < count; i++) {
                starts[i] = starts[i + 1];
                lengths[i] = lengths[i + 1];
            }
        }
    }
}
