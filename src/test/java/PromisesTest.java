/** Each promise of the document with ordinary inputs, the edges that it names, and wrong inputs. */
public final class PromisesTest {
    private static final int MAX = Integer.MAX_VALUE;
    private static final int MIN = Integer.MIN_VALUE;
    private static int wrong = 0;

    private static void due(String what, long got, long want) {
        if (got != want) {
            wrong++;
            System.out.println(what + " answered " + got + ", due is " + want);
        }
    }

    private static void due(String what, boolean got, boolean want) {
        due(what, got ? 1 : 0, want ? 1 : 0);
    }

    private static void dueKeys(String what, PairSorter x, int... keys) {
        due(what + ": size", x.size(), keys.length);
        for (int i = 0; i < keys.length; i++) {
            due(what + ": key " + i, x.keyAt(i), keys[i]);
        }
    }

    private static void dueTags(String what, PairSorter x, int... tags) {
        due(what + ": size", x.size(), tags.length);
        for (int i = 0; i < tags.length; i++) {
            due(what + ": tag " + i, x.tagAt(i), tags[i]);
        }
    }

    private static PairSorter withKeys(int... keys) {
        PairSorter x = new PairSorter(4096);
        for (int i = 0; i < keys.length; i++) {
            x.put(keys[i], i);
        }
        return x;
    }

    /** A list whose runs are as long as told: each one rises and begins below the end of the last. */
    private static PairSorter withRuns(int... lengths) {
        PairSorter x = new PairSorter(4096);
        for (int i = 0; i < lengths.length; i++) {
            x.fill(lengths[i], i, 1, 0, 1000 * i);
        }
        return x;
    }

    private static void dueRuns(String what, PairSorter x, int... lengths) {
        due(what + ": runs", x.work(0, 0), lengths.length);
        for (int i = 0; i < lengths.length; i++) {
            due(what + ": run " + i, x.work(3, i), lengths[i]);
        }
        due(what + ": behind the runs", x.work(3, lengths.length), 0);
    }

    private static void dueNothingSorted(String what, PairSorter x) {
        due(what + ": stackHigh", x.stackHigh(), 0);
        for (int k = -1; k <= 4; k++) {
            due(what + ": work " + k, x.work(k, 0), 0);
        }
    }

    private static void promise1NewObject() {
        PairSorter x = new PairSorter(10);
        due("1 size", x.size(), 0);
        due("1 key", x.keyAt(0), 0);
        due("1 sorted", x.sorted(0), 0);
        dueNothingSorted("1", x);
        int[] caps = {MIN, -1, 0, 1, 2, 33, 4095, 4096, 4097, MAX};
        int[] rooms = {1, 1, 1, 1, 2, 33, 4095, 4096, 4096, 4096};
        for (int i = 0; i < caps.length; i++) {
            due("1 cap " + caps[i], new PairSorter(caps[i]).fill(MAX, 0, 0, 0, 0), rooms[i]);
        }
    }

    private static void promise2Put() {
        PairSorter x = new PairSorter(3);
        due("2 first", x.put(7, 70), true);
        due("2 least", x.put(MIN, MIN), true);
        due("2 greatest", x.put(MAX, MAX), true);
        due("2 full", x.put(1, 2), false);
        dueKeys("2", x, 7, MIN, MAX);
        dueTags("2", x, 70, MIN, MAX);
        PairSorter y = withKeys(5, -1, 0);
        y.put(-1, -1);
        dueKeys("2 negative tag", y, 5, -1, 0, -1);
        dueTags("2 negative tag", y, 0, 1, 2, -1);
    }

    private static void promise3Fill() {
        PairSorter x = new PairSorter(6);
        due("3 three", x.fill(3, 10, -4, 0, 100), 3);
        due("3 none", x.fill(0, 1, 1, 1, 1), 0);
        due("3 below none", x.fill(-1, 1, 1, 1, 1), 0);
        due("3 far below none", x.fill(MIN, 1, 1, 1, 1), 0);
        due("3 more than room", x.fill(9, -7, 3, 5, -1), 3);
        due("3 full", x.fill(1, 1, 1, 1, 1), 0);
        dueKeys("3", x, 10, 6, 2, 3, 1, 4);
        dueTags("3", x, 100, 101, 102, -1, 0, 1);
        PairSorter y = new PairSorter(8);
        due("3 m 1", y.fill(2, MAX, 1, 1, MAX), 2);
        due("3 m below 0", y.fill(2, -3, -3, -2, 0), 2);
        due("3 wraps", y.fill(2, MAX, 1, 0, 0), 2);
        due("3 wraps before modulo", y.fill(2, MAX, 1, 10, 0), 2);
        dueKeys("3 edges", y, 0, 0, -3, -6, MAX, MIN, 7, 2);
        dueTags("3 edges", y, MAX, MIN, 0, 1, 0, 1, 0, 1);
    }

    private static void promise4Turn() {
        PairSorter x = withKeys(1, 2, 3, 4, 5);
        due("4 middle", x.turn(1, 3), 3);
        dueKeys("4 middle", x, 1, 4, 3, 2, 5);
        dueTags("4 middle", x, 0, 3, 2, 1, 4);
        due("4 even", x.turn(3, 2), 2);
        dueKeys("4 even", x, 1, 4, 3, 5, 2);
        due("4 one", x.turn(4, 1), 1);
        due("4 none", x.turn(2, 0), 0);
        due("4 none at the end", x.turn(5, 0), 0);
        int[][] wrongs = {{3, 3}, {5, 1}, {0, 6}, {-1, 2}, {-1, 0}, {2, -1}, {MAX, MAX}, {1, MAX},
            {MAX, 1}, {MIN, MIN}, {MIN, 1}, {0, MIN}, {MAX, MIN}, {MIN, MAX}};
        for (int[] w : wrongs) {
            due("4 turn " + w[0] + ", " + w[1], x.turn(w[0], w[1]), 0);
        }
        dueKeys("4 wrong ones change nothing", x, 1, 4, 3, 5, 2);
        due("4 whole", x.turn(0, 5), 5);
        dueKeys("4 whole", x, 2, 5, 3, 4, 1);
    }

    private static void promise5RunSorts() {
        due("5 empty", new PairSorter(5).run(), 0);
        PairSorter one = withKeys(9);
        due("5 one", one.run(), 0);
        dueKeys("5 one", one, 9);
        PairSorter x = withKeys(3, MIN, 3, MAX, -1, 3, 0, MIN);
        due("5 short", x.run(), 1);
        dueKeys("5 short", x, MIN, MIN, -1, 0, 3, 3, 3, MAX);
        dueTags("5 short", x, 1, 7, 4, 6, 0, 2, 5, 3);
        PairSorter falling = withKeys(2, 2, 1, 1, 0, 0);
        falling.run();
        dueTags("5 equal ones stay in order", falling, 4, 5, 2, 3, 0, 1);
    }

    private static void promise5MergesKeepEqualOnesInOrder() {
        int[][] lengths = {{40, 60}, {60, 40}, {50, 50}};
        for (int[] l : lengths) {
            PairSorter x = new PairSorter(100);
            x.fill(l[0], 0, 1, 0, 0);
            x.fill(l[1], 0, 1, 0, 1000);
            due("5 merged", x.run(), 2);
            for (int key = 0; key < 40; key++) {
                due("5 merged: first key " + key, x.keyAt(2 * key), key);
                due("5 merged: first tag " + key, x.tagAt(2 * key), key);
                due("5 merged: second key " + key, x.keyAt(2 * key + 1), key);
                due("5 merged: second tag " + key, x.tagAt(2 * key + 1), 1000 + key);
            }
        }
    }

    private static void promise5Height() {
        due("5 one run", heightOf(100), 1);
        due("5 two runs", heightOf(60, 40), 2);
        due("5 merged at once", heightOf(40, 60), 2);
        due("5 two, then merged, then two", heightOf(40, 40, 40), 2);
        due("5 z one above w", heightOf(41, 40, 30), 3);
        due("5 y equal to z and w", heightOf(70, 40, 30, 20), 3);
        due("5 y one above z and w", heightOf(71, 40, 30, 20), 4);
        due("5 falling heap", heightOf(400, 200, 100, 50, 25), 5);
        due("5 x below y and z", heightOf(120, 80, 25, 20, 30), 5);
    }

    private static int heightOf(int... lengths) {
        PairSorter x = withRuns(lengths);
        int height = x.run();
        dueRuns("5 runs", x, lengths);
        due("5 all in order", x.sorted(0), x.size());
        return height;
    }

    private static void promises6And7KeyAtAndTagAt() {
        PairSorter x = new PairSorter(4);
        x.put(11, -1);
        x.put(-22, 5);
        int[] places = {MIN, -1, 0, 1, 2, 3, 4, MAX};
        int[] keys = {0, 0, 11, -22, 0, 0, 0, 0};
        int[] tags = {0, 0, -1, 5, 0, 0, 0, 0};
        for (int i = 0; i < places.length; i++) {
            due("6 keyAt " + places[i], x.keyAt(places[i]), keys[i]);
            due("7 tagAt " + places[i], x.tagAt(places[i]), tags[i]);
        }
        x.clear();
        due("6 cleared", x.keyAt(0), 0);
        due("7 cleared", x.tagAt(0), 0);
    }

    private static void promise8Size() {
        PairSorter x = new PairSorter(5);
        due("8 new", x.size(), 0);
        x.put(1, 1);
        due("8 put", x.size(), 1);
        x.fill(3, 9, -1, 0, 0);
        due("8 fill", x.size(), 4);
        x.fill(3, 9, -1, 0, 0);
        x.put(1, 1);
        due("8 full", x.size(), 5);
        x.turn(0, 5);
        x.run();
        due("8 turned and sorted", x.size(), 5);
    }

    private static void promise9StackHigh() {
        PairSorter x = withRuns(400, 200, 100);
        due("9 before any", x.stackHigh(), 0);
        x.run();
        due("9 three", x.stackHigh(), 3);
        due("9 sorted again", x.run(), 1);
        due("9 stays", x.stackHigh(), 3);
        x.put(MIN, 0);
        x.fill(99, 0, 1, 0, 0);
        due("9 two more runs", x.run(), 2);
        due("9 stays the greatest", x.stackHigh(), 3);
        x.clear();
        due("9 cleared", x.stackHigh(), 0);
        x.put(1, 1);
        x.run();
        due("9 one pair", x.stackHigh(), 0);
        x.put(1, 1);
        x.run();
        due("9 two pairs", x.stackHigh(), 1);
    }

    private static void promise10Runs() {
        int[][] leasts = {{2, 2}, {31, 31}, {32, 16}, {33, 17}, {63, 32}, {64, 16}, {65, 17},
            {127, 32}, {128, 16}, {1000, 32}, {2048, 16}, {2049, 17}, {4095, 32}, {4096, 16}};
        for (int[] l : leasts) {
            PairSorter x = new PairSorter(4096);
            x.fill(l[0], 0, 1, 2, 0);
            x.run();
            int runs = (l[0] + l[1] - 1) / l[1];
            due("10 runs of " + l[0], x.work(0, 0), runs);
            due("10 least of " + l[0], x.work(3, 0), l[1]);
            due("10 last of " + l[0], x.work(3, runs - 1), l[0] - (runs - 1) * l[1]);
            due("10 merges of " + l[0], x.work(1, 0), runs - 1);
        }
        PairSorter falling = new PairSorter(200);
        falling.fill(40, 100, -1, 0, 0);
        falling.fill(24, 61, 0, 0, 0);
        falling.run();
        dueRuns("10 falling run ends at an equal key", falling, 40, 24);
        PairSorter level = new PairSorter(200);
        level.fill(40, 5, 0, 0, 0);
        level.fill(24, 4, 0, 0, 0);
        level.run();
        dueRuns("10 equal keys are one run", level, 40, 24);
    }

    private static void promise10Merges() {
        dueWork("10 falling heap", withRuns(400, 200, 100, 50), 3, 150 + 350 + 750);
        dueWork("10 y below w", withRuns(60, 40, 80), 2, 100 + 180);
        dueWork("10 y equal to w", withRuns(40, 30, 40, 35), 3, 70 + 110 + 145);
        dueWork("10 z equal to w", withRuns(40, 40), 1, 80);
        dueWork("10 y equal to z and w", withRuns(70, 40, 30), 2, 70 + 140);
        dueWork("10 y one above z and w", withRuns(71, 40, 30), 2, 70 + 141);
        dueWork("10 x below y and z", withRuns(120, 80, 25, 20, 30), 4, 45 + 75 + 155 + 275);
        dueWork("10 x equal to y and z", withRuns(250, 160, 50, 40, 60, 100),
            5, 90 + 150 + 310 + 560 + 660);
        dueWork("10 x one above y and z", withRuns(251, 160, 50, 40, 60, 100),
            5, 90 + 150 + 250 + 410 + 661);
        dueWork("10 sorted already", withRuns(300), 0, 0);
    }

    private static void dueWork(String what, PairSorter x, long merges, long pairs) {
        x.run();
        due(what + ": merges", x.work(1, 0), merges);
        due(what + ": merges, any i", x.work(1, MIN), merges);
        due(what + ": pairs", x.work(2, 0), pairs);
        due(what + ": pairs, any i", x.work(2, MAX), pairs);
    }

    private static void promise10Others() {
        PairSorter x = withRuns(60, 40);
        dueNothingSorted("10 before any", x);
        x.run();
        due("10 runs, any i", x.work(0, -5), 2);
        int[] others = {MIN, -1, 4, 5, MAX};
        for (int what : others) {
            due("10 what " + what, x.work(what, 0), 0);
        }
        int[] places = {MIN, -1, 2, 3, 4096, MAX};
        for (int i : places) {
            due("10 run " + i, x.work(3, i), 0);
        }
        x.put(MIN, 0);
        dueRuns("10 the latest sorting stays", x, 60, 40);
        x.clear();
        x.put(1, 1);
        x.run();
        dueNothingSorted("10 one pair", x);
        PairSorter again = withRuns(60, 40);
        again.run();
        again.run();
        dueRuns("10 the latest alone", again, 100);
        due("10 no merge in the latest", again.work(1, 0) + again.work(2, 0), 0);
    }

    private static void promise11Sorted() {
        PairSorter x = withKeys(1, 1, 2, 0, MIN, MAX, MAX);
        int[] places = {MIN, -1, 0, 1, 2, 3, 4, 5, 6, 7, MAX};
        int[] counts = {0, 0, 3, 2, 1, 1, 3, 2, 1, 0, 0};
        for (int i = 0; i < places.length; i++) {
            due("11 sorted " + places[i], x.sorted(places[i]), counts[i]);
        }
        x.clear();
        x.put(9, 9);
        due("11 nothing behind the list counts", x.sorted(0), 1);
    }

    private static void promise12Clear() {
        PairSorter x = new PairSorter(90);
        x.fill(90, 0, 7, 13, 0);
        x.run();
        x.clear();
        due("12 size", x.size(), 0);
        due("12 key", x.keyAt(0), 0);
        due("12 turn", x.turn(0, 1), 0);
        due("12 sorted", x.sorted(0), 0);
        dueNothingSorted("12", x);
        due("12 run", x.run(), 0);
        due("12 the room is as before", x.fill(100, 0, 7, 13, 0), 90);
        due("12 sorted as before", x.run(), 3);
        x.clear();
        x.clear();
        dueNothingSorted("12 twice", x);
    }

    public static void main(String[] args) {
        promise1NewObject();
        promise2Put();
        promise3Fill();
        promise4Turn();
        promise5RunSorts();
        promise5MergesKeepEqualOnesInOrder();
        promise5Height();
        promises6And7KeyAtAndTagAt();
        promise8Size();
        promise9StackHigh();
        promise10Runs();
        promise10Merges();
        promise10Others();
        promise11Sorted();
        promise12Clear();
        System.out.println(wrong == 0 ? "all promises hold" : wrong + " answers are not as due");
        if (wrong != 0) {
            System.exit(1);
        }
    }
}
