/** Each promise of the document with ordinary inputs, the edges that it names, and wrong inputs. */
public final class PromisesTest {
    private static final int MAX = Integer.MAX_VALUE;
    private static final int MIN = Integer.MIN_VALUE;

    private static void promise1NewObject() {
        PairSorter x = new PairSorter(10);
        Check.due("1 size", x.size(), 0);
        Check.due("1 key", x.keyAt(0), 0);
        Check.due("1 sorted", x.sorted(0), 0);
        Check.dueNothingSorted("1", x);
        int[] caps = {MIN, -1, 0, 1, 2, 33, 4095, 4096, 4097, MAX};
        int[] rooms = {1, 1, 1, 1, 2, 33, 4095, 4096, 4096, 4096};
        for (int i = 0; i < caps.length; i++) {
            Check.due("1 cap " + caps[i], new PairSorter(caps[i]).fill(MAX, 0, 0, 0, 0), rooms[i]);
        }
    }

    private static void promise2Put() {
        PairSorter x = new PairSorter(3);
        Check.due("2 first", x.put(7, 70), true);
        Check.due("2 least", x.put(MIN, MIN), true);
        Check.due("2 greatest", x.put(MAX, MAX), true);
        Check.due("2 full", x.put(1, 2), false);
        Check.dueKeys("2", x, 7, MIN, MAX);
        Check.dueTags("2", x, 70, MIN, MAX);
        PairSorter y = Check.withKeys(5, -1, 0);
        y.put(-1, -1);
        Check.dueKeys("2 negative tag", y, 5, -1, 0, -1);
        Check.dueTags("2 negative tag", y, 0, 1, 2, -1);
    }

    private static void promise3Fill() {
        PairSorter x = new PairSorter(6);
        Check.due("3 three", x.fill(3, 10, -4, 0, 100), 3);
        Check.due("3 none", x.fill(0, 1, 1, 1, 1), 0);
        Check.due("3 below none", x.fill(-1, 1, 1, 1, 1), 0);
        Check.due("3 far below none", x.fill(MIN, 1, 1, 1, 1), 0);
        Check.due("3 more than room", x.fill(9, -7, 3, 5, -1), 3);
        Check.due("3 full", x.fill(1, 1, 1, 1, 1), 0);
        Check.dueKeys("3", x, 10, 6, 2, 3, 1, 4);
        Check.dueTags("3", x, 100, 101, 102, -1, 0, 1);
        PairSorter y = new PairSorter(8);
        Check.due("3 m 1", y.fill(2, MAX, 1, 1, MAX), 2);
        Check.due("3 m below 0", y.fill(2, -3, -3, -2, 0), 2);
        Check.due("3 wraps", y.fill(2, MAX, 1, 0, 0), 2);
        Check.due("3 wraps before modulo", y.fill(2, MAX, 1, 10, 0), 2);
        Check.dueKeys("3 edges", y, 0, 0, -3, -6, MAX, MIN, 7, 2);
        Check.dueTags("3 edges", y, MAX, MIN, 0, 1, 0, 1, 0, 1);
    }

    private static void promise4Turn() {
        PairSorter x = Check.withKeys(1, 2, 3, 4, 5);
        Check.due("4 middle", x.turn(1, 3), 3);
        Check.dueKeys("4 middle", x, 1, 4, 3, 2, 5);
        Check.dueTags("4 middle", x, 0, 3, 2, 1, 4);
        Check.due("4 even", x.turn(3, 2), 2);
        Check.dueKeys("4 even", x, 1, 4, 3, 5, 2);
        Check.due("4 one", x.turn(4, 1), 1);
        Check.due("4 none", x.turn(2, 0), 0);
        Check.due("4 none at the end", x.turn(5, 0), 0);
        int[][] wrongs = {{3, 3}, {5, 1}, {0, 6}, {-1, 2}, {-1, 0}, {2, -1}, {MAX, MAX}, {1, MAX},
            {MAX, 1}, {MIN, MIN}, {MIN, 1}, {0, MIN}, {MAX, MIN}, {MIN, MAX}};
        for (int[] w : wrongs) {
            Check.due("4 turn " + w[0] + ", " + w[1], x.turn(w[0], w[1]), 0);
        }
        Check.dueKeys("4 wrong ones change nothing", x, 1, 4, 3, 5, 2);
        Check.due("4 whole", x.turn(0, 5), 5);
        Check.dueKeys("4 whole", x, 2, 5, 3, 4, 1);
    }

    private static void promise5RunSorts() {
        Check.due("5 empty", new PairSorter(5).run(), 0);
        PairSorter one = Check.withKeys(9);
        Check.due("5 one", one.run(), 0);
        Check.dueKeys("5 one", one, 9);
        PairSorter x = Check.withKeys(3, MIN, 3, MAX, -1, 3, 0, MIN);
        Check.due("5 short", x.run(), 1);
        Check.dueKeys("5 short", x, MIN, MIN, -1, 0, 3, 3, 3, MAX);
        Check.dueTags("5 short", x, 1, 7, 4, 6, 0, 2, 5, 3);
        PairSorter falling = Check.withKeys(2, 2, 1, 1, 0, 0);
        falling.run();
        Check.dueTags("5 equal ones stay in order", falling, 4, 5, 2, 3, 0, 1);
    }

    private static void promise5MergesKeepEqualOnesInOrder() {
        int[][] lengths = {{40, 60}, {60, 40}, {50, 50}};
        for (int[] l : lengths) {
            PairSorter x = new PairSorter(100);
            x.fill(l[0], 0, 1, 0, 0);
            x.fill(l[1], 0, 1, 0, 1000);
            Check.due("5 merged", x.run(), 2);
            for (int key = 0; key < 40; key++) {
                Check.due("5 merged: first key " + key, x.keyAt(2 * key), key);
                Check.due("5 merged: first tag " + key, x.tagAt(2 * key), key);
                Check.due("5 merged: second key " + key, x.keyAt(2 * key + 1), key);
                Check.due("5 merged: second tag " + key, x.tagAt(2 * key + 1), 1000 + key);
            }
        }
    }

    private static void promise5Height() {
        Check.due("5 one run", heightOf(100), 1);
        Check.due("5 two runs", heightOf(60, 40), 2);
        Check.due("5 merged at once", heightOf(40, 60), 2);
        Check.due("5 two, then merged, then two", heightOf(40, 40, 40), 2);
        Check.due("5 z one above w", heightOf(41, 40, 30), 3);
        Check.due("5 y equal to z and w", heightOf(70, 40, 30, 20), 3);
        Check.due("5 y one above z and w", heightOf(71, 40, 30, 20), 4);
        Check.due("5 falling heap", heightOf(400, 200, 100, 50, 25), 5);
        Check.due("5 x below y and z", heightOf(120, 80, 25, 20, 30), 5);
    }

    private static int heightOf(int... lengths) {
        PairSorter x = Check.withRuns(lengths);
        int height = x.run();
        Check.dueRuns("5 runs", x, lengths);
        Check.due("5 all in order", x.sorted(0), x.size());
        return height;
    }

    private static void promises6And7KeyAtAndTagAt() {
        PairSorter x = new PairSorter(4);
        x.put(11, -1);
        x.put(-22, 5);
        int[] places = {MIN, -1, 0, 1, 2, 3, 4, MAX};
        int[] keys = {0, 0, 11, -22, 0, 0, 0, 0};
        int[] tags = {0, 0, -1, 5, 0, 0, 0, 0};
        for (int i = 0; i < places.length; i++) {
            Check.due("6 keyAt " + places[i], x.keyAt(places[i]), keys[i]);
            Check.due("7 tagAt " + places[i], x.tagAt(places[i]), tags[i]);
        }
        x.clear();
        Check.due("6 cleared", x.keyAt(0), 0);
        Check.due("7 cleared", x.tagAt(0), 0);
    }

    private static void promise8Size() {
        PairSorter x = new PairSorter(5);
        Check.due("8 new", x.size(), 0);
        x.put(1, 1);
        Check.due("8 put", x.size(), 1);
        x.fill(3, 9, -1, 0, 0);
        Check.due("8 fill", x.size(), 4);
        x.fill(3, 9, -1, 0, 0);
        x.put(1, 1);
        Check.due("8 full", x.size(), 5);
        x.turn(0, 5);
        x.run();
        Check.due("8 turned and sorted", x.size(), 5);
    }

    private static void promise9StackHigh() {
        PairSorter x = Check.withRuns(400, 200, 100);
        Check.due("9 before any", x.stackHigh(), 0);
        x.run();
        Check.due("9 three", x.stackHigh(), 3);
        Check.due("9 sorted again", x.run(), 1);
        Check.due("9 stays", x.stackHigh(), 3);
        x.put(MIN, 0);
        x.fill(99, 0, 1, 0, 0);
        Check.due("9 two more runs", x.run(), 2);
        Check.due("9 stays the greatest", x.stackHigh(), 3);
        x.clear();
        Check.due("9 cleared", x.stackHigh(), 0);
        x.put(1, 1);
        x.run();
        Check.due("9 one pair", x.stackHigh(), 0);
        x.put(1, 1);
        x.run();
        Check.due("9 two pairs", x.stackHigh(), 1);
    }

    private static void promise10Runs() {
        int[][] leasts = {{2, 2}, {31, 31}, {32, 16}, {33, 17}, {63, 32}, {64, 16}, {65, 17},
            {127, 32}, {128, 16}, {1000, 32}, {2048, 16}, {2049, 17}, {4095, 32}, {4096, 16}};
        for (int[] l : leasts) {
            PairSorter x = new PairSorter(4096);
            x.fill(l[0], 0, 1, 2, 0);
            x.run();
            int runs = (l[0] + l[1] - 1) / l[1];
            Check.due("10 runs of " + l[0], x.work(0, 0), runs);
            Check.due("10 least of " + l[0], x.work(3, 0), l[1]);
            Check.due("10 last of " + l[0], x.work(3, runs - 1), l[0] - (runs - 1) * l[1]);
            Check.due("10 merges of " + l[0], x.work(1, 0), runs - 1);
        }
        PairSorter falling = new PairSorter(200);
        falling.fill(40, 100, -1, 0, 0);
        falling.fill(24, 61, 0, 0, 0);
        falling.run();
        Check.dueRuns("10 falling run ends at an equal key", falling, 40, 24);
        PairSorter level = new PairSorter(200);
        level.fill(40, 5, 0, 0, 0);
        level.fill(24, 4, 0, 0, 0);
        level.run();
        Check.dueRuns("10 equal keys are one run", level, 40, 24);
    }

    private static void promise10Merges() {
        dueWork("10 falling heap", Check.withRuns(400, 200, 100, 50), 3, 150 + 350 + 750);
        dueWork("10 y below w", Check.withRuns(60, 40, 80), 2, 100 + 180);
        dueWork("10 y equal to w", Check.withRuns(40, 30, 40, 35), 3, 70 + 110 + 145);
        dueWork("10 z equal to w", Check.withRuns(40, 40), 1, 80);
        dueWork("10 y equal to z and w", Check.withRuns(70, 40, 30), 2, 70 + 140);
        dueWork("10 y one above z and w", Check.withRuns(71, 40, 30), 2, 70 + 141);
        dueWork("10 x below y and z", Check.withRuns(120, 80, 25, 20, 30), 4, 45 + 75 + 155 + 275);
        dueWork("10 x equal to y and z", Check.withRuns(250, 160, 50, 40, 60, 100),
            5, 90 + 150 + 310 + 560 + 660);
        dueWork("10 x one above y and z", Check.withRuns(251, 160, 50, 40, 60, 100),
            5, 90 + 150 + 250 + 410 + 661);
        dueWork("10 sorted already", Check.withRuns(300), 0, 0);
    }

    private static void dueWork(String what, PairSorter x, long merges, long pairs) {
        x.run();
        Check.due(what + ": merges", x.work(1, 0), merges);
        Check.due(what + ": merges, any i", x.work(1, MIN), merges);
        Check.due(what + ": pairs", x.work(2, 0), pairs);
        Check.due(what + ": pairs, any i", x.work(2, MAX), pairs);
    }

    private static void promise10Others() {
        PairSorter x = Check.withRuns(60, 40);
        Check.dueNothingSorted("10 before any", x);
        x.run();
        Check.due("10 runs, any i", x.work(0, -5), 2);
        int[] others = {MIN, -1, 4, 5, MAX};
        for (int what : others) {
            Check.due("10 what " + what, x.work(what, 0), 0);
        }
        int[] places = {MIN, -1, 2, 3, 4096, MAX};
        for (int i : places) {
            Check.due("10 run " + i, x.work(3, i), 0);
        }
        x.put(MIN, 0);
        Check.dueRuns("10 the latest sorting stays", x, 60, 40);
        x.clear();
        x.put(1, 1);
        x.run();
        Check.dueNothingSorted("10 one pair", x);
        PairSorter again = Check.withRuns(60, 40);
        again.run();
        again.run();
        Check.dueRuns("10 the latest alone", again, 100);
        Check.due("10 no merge in the latest", again.work(1, 0) + again.work(2, 0), 0);
    }

    private static void promise11Sorted() {
        PairSorter x = Check.withKeys(1, 1, 2, 0, MIN, MAX, MAX);
        int[] places = {MIN, -1, 0, 1, 2, 3, 4, 5, 6, 7, MAX};
        int[] counts = {0, 0, 3, 2, 1, 1, 3, 2, 1, 0, 0};
        for (int i = 0; i < places.length; i++) {
            Check.due("11 sorted " + places[i], x.sorted(places[i]), counts[i]);
        }
        x.clear();
        x.put(9, 9);
        Check.due("11 nothing behind the list counts", x.sorted(0), 1);
    }

    private static void promise12Clear() {
        PairSorter x = new PairSorter(90);
        x.fill(90, 0, 7, 13, 0);
        x.run();
        x.clear();
        Check.due("12 size", x.size(), 0);
        Check.due("12 key", x.keyAt(0), 0);
        Check.due("12 turn", x.turn(0, 1), 0);
        Check.due("12 sorted", x.sorted(0), 0);
        Check.dueNothingSorted("12", x);
        Check.due("12 run", x.run(), 0);
        Check.due("12 the room is as before", x.fill(100, 0, 7, 13, 0), 90);
        Check.due("12 sorted as before", x.run(), 3);
        x.clear();
        x.clear();
        Check.dueNothingSorted("12 twice", x);
    }

    public static void main(String[] args) {
        promise1NewObject();
        promise2Put();
        promise3Fill();
        promise4Turn();
        promise5RunSorts();
        promise5MergesKeepEqualOnesInOrder();
        promise5Height();
        promises6And7KeyAtAndTagAt();
        promise8Size();
        promise9StackHigh();
        promise10Runs();
        promise10Merges();
        promise10Others();
        promise11Sorted();
        promise12Clear();
        Check.end("all promises hold");
    }
}
