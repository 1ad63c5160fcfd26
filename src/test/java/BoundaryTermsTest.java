import java.util.Arrays;

/** One test for each sentence of "Terms" that names a boundary case. */
public final class BoundaryTermsTest {
    private static final int MAX = Integer.MAX_VALUE;
    private static final int MIN = Integer.MIN_VALUE;

    /** A list of 64, of which LEAST is 16: these keys, and then a rising rest far above them. */
    private static PairSorter sixtyFourBeginningWith(int... keys) {
        PairSorter x = new PairSorter(64);
        for (int i = 0; i < keys.length; i++) {
            x.put(keys[i], i);
        }
        x.fill(64, 1000, 1, 0, 1000);
        return x;
    }

    /** Keys from the first one on, by a step. */
    private static int[] keys(int count, int first, int step) {
        int[] keys = new int[count];
        for (int i = 0; i < count; i++) {
            keys[i] = first + i * step;
        }
        return keys;
    }

    private static int[] joined(int[] first, int... second) {
        int[] all = Arrays.copyOf(first, first.length + second.length);
        System.arraycopy(second, 0, all, first.length, second.length);
        return all;
    }

    // "THE LIST has pairs of a KEY and a TAG, up to CAP"
    private static void listHasUpToCapPairs() {
        int[] caps = {1, 2, 31, 32, 33, 4095, 4096};
        for (int cap : caps) {
            PairSorter x = new PairSorter(cap);
            Check.due("cap " + cap + ": all but one", x.fill(cap - 1, 7, -3, 0, 0), cap - 1);
            Check.due("cap " + cap + ": the last", x.put(5, 5), true);
            Check.due("cap " + cap + ": one more", x.put(6, 6), false);
            Check.due("cap " + cap + ": one more filled", x.fill(1, 6, 0, 0, 6), 0);
            Check.due("cap " + cap + ": size", x.size(), cap);
        }
    }

    // "SORTED: by keys, the least first"
    private static void leastKeyIsFirst() {
        PairSorter x = Check.withKeys(0, MAX, -1, MIN, 1, MAX - 1, MIN + 1);
        x.run();
        Check.dueKeys("least first", x, MIN, MIN + 1, -1, 0, 1, MAX - 1, MAX);
        Check.dueTags("least first", x, 3, 6, 2, 0, 4, 5, 1);
        PairSorter tags = new PairSorter(3);
        tags.put(2, MIN);
        tags.put(1, MAX);
        tags.put(1, -1);
        tags.run();
        Check.dueTags("tags do not count", tags, MAX, -1, MIN);
    }

    // "SORTED: pairs with the same key as they were, one behind the other"
    private static void sameKeysStayAsTheyWere() {
        Check.dueSorted("all the same", sixtyFourBeginningWith(new int[64]), 1);
        PairSorter falling = new PairSorter(64);
        falling.fill(64, 5, 0, 0, -32);
        falling.turn(0, 64);
        Check.dueSorted("falling tags", falling, 1);
        Check.dueRuns("falling tags", falling, 64);
        Check.dueSorted("a falling run in pairs", Check.withKeys(3, 3, 2, 2, 1, 1, 0, 0), 1);
        int[] ends = {MIN, -1, 0, MAX};
        for (int key : ends) {
            PairSorter x = Check.withKeys(key, key, key, key);
            x.run();
            Check.dueTags("the same key " + key, x, 0, 1, 2, 3);
        }
        int[] moduli = {1, 2, 3, 16, 17, 4095};
        for (int m : moduli) {
            Check.dueSorted("modulo " + m, turnedRound(m), turnedRound(m).run());
        }
    }

    /** A full list whose tags fall, so that sorting by them would not leave equal keys in order. */
    private static PairSorter turnedRound(int m) {
        PairSorter x = new PairSorter(4096);
        x.fill(4096, 1, 7919, m, 0);
        x.turn(0, 4096);
        return x;
    }

    // "LEAST for n pairs: n is halved (cut) until it is below 32"
    private static void leastIsBelowThirtyTwoWhenNothingIsCutOff() {
        int[][] leasts = {{2, 2}, {16, 16}, {30, 30}, {31, 31}, {32, 16}, {34, 17}, {62, 31},
            {64, 16}, {124, 31}, {128, 16}, {1984, 31}, {2048, 16}, {3968, 31}, {4096, 16}};
        for (int[] l : leasts) {
            dueLeast(l[0], l[1]);
        }
    }

    // "that, and 1 more if any bit was cut off by that"
    private static void leastIsOneMoreWhenAnyBitWasCutOff() {
        int[][] leasts = {{33, 17}, {35, 18}, {63, 32}, {65, 17}, {66, 17}, {67, 17}, {68, 17},
            {126, 32}, {127, 32}, {129, 17}, {130, 17}, {132, 17}, {136, 17}, {2049, 17},
            {2112, 17}, {3969, 32}, {4000, 32}, {4032, 32}, {4094, 32}, {4095, 32}};
        for (int[] l : leasts) {
            dueLeast(l[0], l[1]);
        }
    }

    // Both sentences on LEAST, for every list that there can be
    private static void leastForEveryCount() {
        for (int n = 2; n <= 4096; n++) {
            int parts = 1;
            while (n / parts > 31) {
                parts *= 2;
            }
            dueLeast(n, (n + parts - 1) / parts);
        }
    }

    private static void dueLeast(int n, int least) {
        PairSorter x = new PairSorter(n);
        x.fill(n, 0, 1, 2, 0);
        x.run();
        int runs = (n + least - 1) / least;
        Check.due("least of " + n + ": runs", x.work(0, 0), runs);
        Check.due("least of " + n + ": first", x.work(3, 0), least);
        Check.due("least of " + n + ": last", x.work(3, runs - 1), n - (runs - 1) * least);
        Check.due("least of " + n + ": sorted", x.sorted(0), n);
    }

    // "From the beginning of the list on, until all of it is used"
    private static void lastRunMayBeOneOrTwoPairs() {
        PairSorter one = Check.withRuns(63, 1);
        Check.dueSorted("one pair is left", one, 2);
        Check.dueRuns("one pair is left", one, 63, 1);
        PairSorter two = Check.withRuns(62, 2);
        Check.dueSorted("two pairs are left", two, 2);
        Check.dueRuns("two pairs are left", two, 62, 2);
        PairSorter falling = new PairSorter(64);
        falling.fill(62, 0, 1, 0, 0);
        falling.fill(2, 3, -1, 0, 100);
        Check.dueSorted("two falling pairs are left", falling, 2);
        Check.dueRuns("two falling pairs are left", falling, 62, 2);
        PairSorter none = Check.withRuns(64);
        Check.dueSorted("nothing is left", none, 1);
        Check.dueRuns("nothing is left", none, 64);
    }

    // "a run is as many pairs from there as can be of which each key is not below the one before"
    private static void risingRunEndsAtAKeyBelow() {
        int[] equal = new int[20];
        dueFirstRuns("equal keys go on", joined(equal, 0, -1), 21, 43);
        dueFirstRuns("one below ends it", joined(keys(20, 0, 1), 18), 20, 44);
        dueFirstRuns("an equal one does not", joined(keys(20, 0, 1), 19, 18), 21, 43);
        dueFirstRuns("the second equal, the third below", joined(new int[] {7, 7}, keys(20, 6, -1)),
            16, 16, 32);
        int[] wide = joined(keys(9, MIN, 1), keys(9, MAX - 8, 1));
        dueFirstRuns("from the least key to the greatest", wide, 18, 46);
    }

    // "or, if the second key is below the first one, as many as can be of which each is below the
    // one before (that is turned round)"
    private static void fallingRunEndsAtAnEqualKey() {
        dueFirstRuns("one above ends it", joined(keys(20, 500, -1), 482), 20, 44);
        dueFirstRuns("an equal one ends it", joined(keys(20, 500, -1), 481), 20, 44);
        dueFirstRuns("one below does not", joined(keys(20, 500, -1), 480), 21, 43);
        dueFirstRuns("from the greatest key to the least",
            joined(keys(9, MAX, -1), keys(9, MIN + 8, -1)), 18, 46);
        PairSorter two = Check.withKeys(1, 0);
        Check.dueSorted("two are turned round", two, 1);
        Check.dueTags("two are turned round", two, 1, 0);
        PairSorter all = new PairSorter(4096);
        all.fill(4096, MAX, -1, 0, 0);
        Check.dueSorted("the whole list falls", all, 1);
        Check.dueRuns("the whole list falls", all, 4096);
    }

    /** The list is 64 long: these keys and the rest behind them have runs of these lengths. */
    private static void dueFirstRuns(String what, int[] keys, int... lengths) {
        PairSorter x = sixtyFourBeginningWith(keys);
        int height = x.run();
        Check.dueRuns(what, x, lengths);
        Check.dueSorted(what + ", sorted again", x, 1);
        Check.dueSorted(what, sixtyFourBeginningWith(keys), height);
    }

    // "if it has fewer than LEAST, it gets as many more as bring it to that"
    private static void shortRunIsBroughtToLeast() {
        int[] counts = {2, 14, 15, 16, 17};
        int[] lengths = {16, 16, 16, 16, 17};
        for (int i = 0; i < counts.length; i++) {
            int[] rising = joined(keys(counts[i], 100, 1), keys(30, 0, -1));
            PairSorter up = sixtyFourBeginningWith(rising);
            up.run();
            Check.due("rising " + counts[i], up.work(3, 0), lengths[i]);
            int[] falling = joined(keys(counts[i], 100, -1), keys(30, 200, -1));
            PairSorter down = sixtyFourBeginningWith(falling);
            down.run();
            Check.due("falling " + counts[i], down.work(3, 0), lengths[i]);
        }
        dueFirstRuns("what is added may go on behind it, but is not taken",
            joined(new int[] {5, 4}, keys(40, 6, 1)), 16, 48);
    }

    // "or to the list's end"
    private static void shortRunEndsWithTheList() {
        for (int rest = 1; rest <= 15; rest++) {
            PairSorter x = new PairSorter(64);
            x.fill(64 - rest, 0, 1, 0, 0);
            x.fill(rest, 0, 1, 2, 1000);
            Check.dueSorted("a rest of " + rest, x, 2);
            Check.dueRuns("a rest of " + rest, x, 64 - rest, rest);
        }
        for (int n = 2; n <= 31; n++) {
            PairSorter x = new PairSorter(n);
            x.fill(n, 0, 1, 2, 0);
            Check.dueSorted("a list of " + n, x, 1);
            Check.dueRuns("a list of " + n, x, n);
        }
    }

    // "(and is sorted)"
    private static void shortRunIsSorted() {
        PairSorter falling = Check.withKeys(5, 4, 4, 5, 3, 4, 5, 3);
        falling.run();
        Check.dueKeys("a turned run made longer", falling, 3, 3, 4, 4, 4, 5, 5, 5);
        Check.dueTags("a turned run made longer", falling, 4, 7, 1, 2, 5, 0, 3, 6);
        PairSorter rising = Check.withKeys(4, 4, 5, 3, 4, MIN, MAX, 5);
        rising.run();
        Check.dueKeys("a rising run made longer", rising, MIN, 3, 4, 4, 4, 5, 5, MAX);
        Check.dueTags("a rising run made longer", rising, 5, 3, 0, 1, 4, 2, 7, 6);
    }

    // "as long as there are two at least"
    private static void oneRunIsInOrder() {
        Check.dueMerges("one run", Check.lengths(100), 1);
        Check.dueMerges("two runs", Check.lengths(60, 40), 2, 100);
    }

    // "if y is not above z and w together (there are three)"
    private static void threeRunsWithYAtItsBound() {
        Check.dueMerges("y one below z and w", Check.lengths(69, 40, 30, 20), 3, 70, 139, 159);
        Check.dueMerges("y is z and w", Check.lengths(70, 40, 30, 20), 3, 70, 140, 160);
        Check.dueMerges("y one above z and w", Check.lengths(71, 40, 30, 20), 4, 50, 90, 161);
    }

    // "or x is not above y and z together (there are four)"
    private static void fourRunsWithXAtItsBound() {
        Check.dueMerges("x one below y and z", Check.lengths(124, 80, 25, 20, 30, 20),
            5, 45, 75, 155, 279, 299);
        Check.dueMerges("x is y and z", Check.lengths(125, 80, 25, 20, 30, 20),
            5, 45, 75, 155, 280, 300);
        Check.dueMerges("x one above y and z", Check.lengths(126, 80, 25, 20, 30, 20),
            5, 45, 50, 95, 175, 301);
    }

    // "z is merged with y if y is below w, otherwise with w"
    private static void zIsMergedWithTheShorterOne() {
        Check.dueMerges("y one below w", Check.lengths(40, 30, 41, 35), 3, 70, 76, 146);
        Check.dueMerges("y is w", Check.lengths(40, 30, 40, 35), 3, 70, 110, 145);
        Check.dueMerges("y one above w", Check.lengths(41, 30, 40, 35), 3, 70, 111, 146);
    }

    // "if not so: if z is not above w, these are merged; otherwise it is in order"
    private static void twoRunsWithZAtItsBound() {
        Check.dueMerges("z one below w", Check.lengths(39, 40, 30), 2, 79, 109);
        Check.dueMerges("z is w", Check.lengths(40, 40, 30), 2, 80, 110);
        Check.dueMerges("z one above w", Check.lengths(41, 40, 30), 3, 70, 111);
        Check.dueMerges("z is w, with y above both", Check.lengths(81, 40, 40, 39),
            3, 80, 119, 200);
    }

    // "(One that is merged with another has both lengths, and is where they were.)"
    private static void mergedRunIsWhereTheyWere() {
        Check.dueMerges("y and z stay below w", Check.lengths(60, 40, 80, 70), 3, 100, 150, 250);
    }

    // "When the list is used up: as long as there are two: z and w are merged": y is never below w
    // there, as a pile that is in order has y above z and w together.
    private static void whatIsLeftIsMergedFromTheTop() {
        Check.dueMerges("two are left", Check.lengths(61, 60), 2, 121);
        Check.dueMerges("three are left", Check.lengths(71, 40, 30), 3, 70, 141);
        Check.dueMerges("five are left", Check.lengths(400, 200, 100, 50, 25),
            5, 75, 175, 375, 775);
        Check.dueMerges("one is left", Check.lengths(40, 60), 2, 100);
    }

    // "THE HEIGHT of a sorting is the greatest number of runs on the pile"
    private static void heightIsTheGreatestNumber() {
        Check.dueMerges("the run that is put on counts", Check.lengths(40, 50), 2, 90);
        Check.dueMerges("more before than at the end", Check.lengths(71, 40, 30, 145), 4,
            70, 141, 286);
    }

    // "(a list of fewer than two has none)"
    private static void fewerThanTwoHaveNoHeight() {
        PairSorter x = new PairSorter(3);
        Check.due("none: height", x.run(), 0);
        Check.dueNothingSorted("none", x);
        x.put(8, 9);
        Check.due("one: height", x.run(), 0);
        Check.dueNothingSorted("one", x);
        Check.dueKeys("one", x, 8);
        x.put(8, 10);
        Check.due("two: height", x.run(), 1);
        Check.dueRuns("two", x, 2);
        Check.due("two: merges", x.work(1, 0), 0);
        Check.due("two: merged pairs", x.work(2, 0), 0);
    }

    // "WORK is what is merged: how often, and how many pairs in all these"
    private static void workCountsPairsAtEachMerge() {
        PairSorter full = new PairSorter(4096);
        full.fill(4096, 0, 1, 2, 0);
        Check.dueSorted("a full list", full, 9);
        Check.due("a full list: runs", full.work(0, 0), 256);
        Check.due("a full list: last run", full.work(3, 255), 16);
        Check.due("a full list: behind the last run", full.work(3, 256), 0);
        Check.due("a full list: merges", full.work(1, 0), 255);
        // Runs of one length are merged by twos: eight times over the whole list.
        Check.due("a full list: merged pairs", full.work(2, 0), 8 * 4096);
    }

    public static void main(String[] args) {
        listHasUpToCapPairs();
        leastKeyIsFirst();
        sameKeysStayAsTheyWere();
        leastIsBelowThirtyTwoWhenNothingIsCutOff();
        leastIsOneMoreWhenAnyBitWasCutOff();
        leastForEveryCount();
        lastRunMayBeOneOrTwoPairs();
        risingRunEndsAtAKeyBelow();
        fallingRunEndsAtAnEqualKey();
        shortRunIsBroughtToLeast();
        shortRunEndsWithTheList();
        shortRunIsSorted();
        oneRunIsInOrder();
        threeRunsWithYAtItsBound();
        fourRunsWithXAtItsBound();
        zIsMergedWithTheShorterOne();
        twoRunsWithZAtItsBound();
        mergedRunIsWhereTheyWere();
        whatIsLeftIsMergedFromTheTop();
        heightIsTheGreatestNumber();
        fewerThanTwoHaveNoHeight();
        workCountsPairsAtEachMerge();
        Check.end("the boundary cases of the terms hold");
    }
}
