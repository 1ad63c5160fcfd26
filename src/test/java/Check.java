import java.util.ArrayList;
import java.util.Comparator;
import java.util.List;

/** What the tests share: lists to begin with, and comparing answers with those that are due. */
final class Check {
    private static int wrong = 0;

    private record Pair(int key, int tag) { }

    private Check() { }

    static void due(String what, long got, long want) {
        if (got != want) {
            wrong++;
            System.out.println(what + " answered " + got + ", due is " + want);
        }
    }

    static void due(String what, boolean got, boolean want) {
        due(what, got ? 1 : 0, want ? 1 : 0);
    }

    static void dueKeys(String what, PairSorter x, int... keys) {
        due(what + ": size", x.size(), keys.length);
        for (int i = 0; i < keys.length; i++) {
            due(what + ": key " + i, x.keyAt(i), keys[i]);
        }
    }

    static void dueTags(String what, PairSorter x, int... tags) {
        due(what + ": size", x.size(), tags.length);
        for (int i = 0; i < tags.length; i++) {
            due(what + ": tag " + i, x.tagAt(i), tags[i]);
        }
    }

    static void dueRuns(String what, PairSorter x, int... lengths) {
        due(what + ": runs", x.work(0, 0), lengths.length);
        for (int i = 0; i < lengths.length; i++) {
            due(what + ": run " + i, x.work(3, i), lengths[i]);
        }
        due(what + ": behind the runs", x.work(3, lengths.length), 0);
    }

    static void dueNothingSorted(String what, PairSorter x) {
        due(what + ": stackHigh", x.stackHigh(), 0);
        dueNoWork(what, x);
    }

    static void dueNoWork(String what, PairSorter x) {
        for (int k = -1; k <= 4; k++) {
            due(what + ": work " + k, x.work(k, 0), 0);
        }
    }

    /** Sorts the list, and compares its pairs with what Java's own stable sorting makes of them. */
    static void dueSorted(String what, PairSorter x, int height) {
        List<Pair> want = pairsOf(x);
        want.sort(Comparator.comparingInt(Pair::key));
        due(what + ": height", x.run(), height);
        due(what + ": the pairs are sorted", pairsOf(x).equals(want), true);
    }

    /** Sorts a list that has these runs; each merge is told by how many pairs it has in all. */
    static void dueMerges(String what, int[] lengths, int height, int... merged) {
        PairSorter x = withRuns(lengths);
        dueSorted(what, x, height);
        dueRuns(what, x, lengths);
        long pairs = 0;
        for (int count : merged) {
            pairs += count;
        }
        due(what + ": merges", x.work(1, 0), merged.length);
        due(what + ": merged pairs", x.work(2, 0), pairs);
    }

    private static List<Pair> pairsOf(PairSorter x) {
        List<Pair> list = new ArrayList<>();
        for (int i = 0; i < x.size(); i++) {
            list.add(new Pair(x.keyAt(i), x.tagAt(i)));
        }
        return list;
    }

    static int[] lengths(int... lengths) {
        return lengths;
    }

    static PairSorter withKeys(int... keys) {
        PairSorter x = new PairSorter(4096);
        for (int i = 0; i < keys.length; i++) {
            x.put(keys[i], i);
        }
        return x;
    }

    /** A list with runs of these lengths: each one rises and begins below the end of the last. */
    static PairSorter withRuns(int... lengths) {
        PairSorter x = new PairSorter(4096);
        for (int i = 0; i < lengths.length; i++) {
            // The tags of a later run are lower: they must not count where keys are equal.
            x.fill(lengths[i], i, 1, 0, 4096 * (lengths.length - i));
        }
        return x;
    }

    static void end(String allRight) {
        System.out.println(wrong == 0 ? allRight : wrong + " answers are not as due");
        if (wrong != 0) {
            System.exit(1);
        }
    }
}
