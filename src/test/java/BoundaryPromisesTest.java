/** One test for each sentence of promises 1 to 12 that names a boundary case. */
public final class BoundaryPromisesTest {
    private static final int MAX = Integer.MAX_VALUE;
    private static final int MIN = Integer.MIN_VALUE;

    private static final int[] NO_PLACES_OF_THREE =
        {MIN, MIN + 1, -2, -1, 3, 4, 8, 9, 4096, MAX - 1, MAX};

    /** Room for eight pairs, of which three are there; what is behind them was there before. */
    private static PairSorter threeOfEight() {
        PairSorter x = new PairSorter(8);
        x.fill(8, 91, 1, 0, 81);
        x.clear();
        x.put(-5, -7);
        x.put(0, 6);
        x.put(9, MIN);
        return x;
    }

    private static void dueThreeOfEight(String what, PairSorter x) {
        Check.dueKeys(what, x, -5, 0, 9);
        Check.dueTags(what, x, -7, 6, MIN);
    }

    // Promise 1: "An empty list"
    private static void newListIsEmpty() {
        int[] caps = {MIN, 0, 1, 31, 4096, MAX};
        for (int cap : caps) {
            PairSorter x = new PairSorter(cap);
            Check.due("1 empty: size", x.size(), 0);
            Check.due("1 empty: keyAt", x.keyAt(0), 0);
            Check.due("1 empty: tagAt", x.tagAt(0), 0);
            Check.due("1 empty: sorted", x.sorted(0), 0);
            Check.due("1 empty: turn", x.turn(0, 1), 0);
            Check.due("1 empty: turn of none", x.turn(0, 0), 0);
            Check.dueNothingSorted("1 empty", x);
            Check.due("1 empty: run", x.run(), 0);
            Check.dueNothingSorted("1 empty, sorted", x);
        }
    }

    // Promise 1: "CAP brought to 1 .. 4096"
    private static void capIsBroughtIntoItsBounds() {
        int[] caps = {MIN, MIN + 1, -4096, -1, 0, 1, 2, 4095, 4096, 4097, 65536, MAX - 1, MAX};
        int[] rooms = {1, 1, 1, 1, 1, 1, 2, 4095, 4096, 4096, 4096, 4096, 4096};
        for (int i = 0; i < caps.length; i++) {
            PairSorter x = new PairSorter(caps[i]);
            int room = 0;
            while (room < 5000 && x.put(room, -room)) {
                room++;
            }
            Check.due("1 cap " + caps[i], room, rooms[i]);
            Check.due("1 cap " + caps[i] + ": size", x.size(), rooms[i]);
        }
    }

    // Promise 2: "false when it has as many as may be"
    private static void putIsRefusedWhenFull() {
        PairSorter x = new PairSorter(3);
        Check.due("2 one of three", x.put(4, 40), true);
        Check.due("2 two of three", x.put(4, 40), true);
        Check.due("2 three of three", x.put(-4, -40), true);
        Check.due("2 four of three", x.put(8, 80), false);
        Check.due("2 refused again", x.put(MIN, MIN), false);
        Check.dueKeys("2 refused: nothing changes", x, 4, 4, -4);
        Check.dueTags("2 refused: nothing changes", x, 40, 40, -40);
        x.run();
        Check.due("2 full after sorting", x.put(1, 1), false);
        x.clear();
        Check.due("2 room again when cleared", x.put(1, 1), true);
        Check.dueKeys("2 room again", x, 1);
    }

    // Promise 2: "A pair more behind the list"
    private static void putTakesAnyKeyAndTag() {
        int[] edges = {MIN, MIN + 1, -1, 0, 1, MAX - 1, MAX};
        for (int key : edges) {
            for (int tag : edges) {
                PairSorter x = new PairSorter(2);
                x.put(3, 3);
                Check.due("2 put", x.put(key, tag), true);
                Check.dueKeys("2 key " + key + ", tag " + tag, x, 3, key);
                Check.dueTags("2 key " + key + ", tag " + tag, x, 3, tag);
            }
        }
    }

    // Promise 3: "n pairs more (as many as there is room for)"
    private static void fillTakesWhatThereIsRoomFor() {
        int[] wanted = {1, 4, 5, 6, 4096, MAX};
        int[] taken = {1, 4, 5, 5, 5, 5};
        for (int i = 0; i < wanted.length; i++) {
            PairSorter x = threeOfEight();
            Check.due("3 fill " + wanted[i], x.fill(wanted[i], 50, 1, 0, 60), taken[i]);
            Check.due("3 fill " + wanted[i] + ": size", x.size(), 3 + taken[i]);
            Check.due("3 fill " + wanted[i] + ": before", x.keyAt(2), 9);
            Check.due("3 fill " + wanted[i] + ": key", x.keyAt(2 + taken[i]), 49 + taken[i]);
            Check.due("3 fill " + wanted[i] + ": tag", x.tagAt(2 + taken[i]), 59 + taken[i]);
            Check.due("3 fill " + wanted[i] + ": behind", x.keyAt(3 + taken[i]), 0);
        }
    }

    // Promise 3: "n pairs more (as many as there is room for)", with no room at all
    private static void fillIsRefusedWhenFull() {
        PairSorter x = new PairSorter(2);
        x.fill(2, 1, 1, 0, 1);
        int[] wanted = {MIN, -1, 0, 1, 2, MAX};
        for (int n : wanted) {
            Check.due("3 full: fill " + n, x.fill(n, 7, 7, 7, 7), 0);
        }
        Check.dueKeys("3 full: nothing changes", x, 1, 2);
        Check.dueTags("3 full: nothing changes", x, 1, 2);
    }

    // Promise 3: "n pairs more", none and fewer than none
    private static void fillOfNoneChangesNothing() {
        PairSorter x = threeOfEight();
        int[] wanted = {0, -1, -3, -8, -4097, MIN + 1, MIN};
        for (int n : wanted) {
            Check.due("3 fill " + n, x.fill(n, 1, 1, 1, 1), 0);
            dueThreeOfEight("3 fill " + n, x);
        }
    }

    // Promise 3: "key and tag go on by a step and 1 from pair to pair", past the greatest int
    private static void fillWrapsAround() {
        PairSorter x = new PairSorter(5);
        x.fill(5, MAX - 1, 1, 0, MAX - 2);
        Check.dueKeys("3 key wraps", x, MAX - 1, MAX, MIN, MIN + 1, MIN + 2);
        Check.dueTags("3 tag wraps", x, MAX - 2, MAX - 1, MAX, MIN, MIN + 1);
        PairSorter down = new PairSorter(3);
        down.fill(3, MIN + 1, -1, 0, -1);
        Check.dueKeys("3 key wraps below", down, MIN + 1, MIN, MAX);
        Check.dueTags("3 tag through 0", down, -1, 0, 1);
        PairSorter far = new PairSorter(4);
        far.fill(4, 1, MIN, 0, 0);
        Check.dueKeys("3 least step", far, 1, MIN + 1, 1, MIN + 1);
        PairSorter wide = new PairSorter(4);
        wide.fill(4, 0, MAX, 0, 0);
        Check.dueKeys("3 greatest step", wide, 0, MAX, -2, MAX - 2);
    }

    // Promise 3: "key, key + step, ..", the step being 0
    private static void fillWithoutStep() {
        PairSorter x = new PairSorter(3);
        x.fill(3, -6, 0, 0, 5);
        Check.dueKeys("3 no step", x, -6, -6, -6);
        Check.dueTags("3 no step", x, 5, 6, 7);
    }

    // Promise 3: "A key is taken modulo m, if m is above 0"
    private static void fillTakesNoModuloUnlessAboveZero() {
        int[] noModulo = {0, -1, -2, -5, MIN};
        for (int m : noModulo) {
            PairSorter x = new PairSorter(5);
            x.fill(5, -7, 4, m, 0);
            Check.dueKeys("3 m " + m, x, -7, -3, 1, 5, 9);
        }
        PairSorter one = new PairSorter(5);
        one.fill(5, -7, 4, 1, 0);
        Check.dueKeys("3 m 1", one, 0, 0, 0, 0, 0);
        PairSorter two = new PairSorter(4);
        two.fill(4, -1, 1, 2, 0);
        Check.dueKeys("3 m 2", two, 1, 0, 1, 0);
        PairSorter greatest = new PairSorter(4);
        greatest.fill(4, MAX - 1, 1, MAX, 0);
        Check.dueKeys("3 greatest m", greatest, MAX - 1, 0, MAX - 1, 0);
    }

    // Promise 3: "(from 0 on)"
    private static void fillModuloIsNeverBelowZero() {
        PairSorter x = new PairSorter(8);
        x.fill(8, 3, -1, 3, 0);
        Check.dueKeys("3 from 0 on", x, 0, 2, 1, 0, 2, 1, 0, 2);
        PairSorter least = new PairSorter(2);
        least.fill(2, MIN, 1, 10, 0);
        Check.dueKeys("3 least key modulo 10", least, 2, 3);
    }

    // Promise 3: the key wraps around as an int does, and what comes of it is taken modulo m
    private static void fillWrapsBeforeModulo() {
        PairSorter up = new PairSorter(3);
        up.fill(3, MAX, 1, 10, 0);
        Check.dueKeys("3 wraps, modulo 10", up, 7, 2, 3);
        PairSorter down = new PairSorter(3);
        down.fill(3, MIN, -1, 1000, 0);
        Check.dueKeys("3 wraps below, modulo 1000", down, 352, 647, 646);
        PairSorter often = new PairSorter(5);
        often.fill(5, 0, 1 << 30, 7, 0);
        Check.dueKeys("3 wraps twice, modulo 7", often, 0, 1, 5, 6, 0);
    }

    // Promise 4: "0 when not all of them are there"
    private static void turnIsRefusedWhenNotAllAreThere() {
        int[][] refused = {{0, 4}, {1, 3}, {2, 2}, {3, 1}, {4, 0}, {4, 1}, {0, 8}, {0, 9}, {7, 1},
            {-1, 1}, {-1, 2}, {-1, 4}, {-3, 3}, {-1, 0}, {0, MAX}, {1, MAX}, {2, MAX}, {3, MAX},
            {MAX, 0}, {MAX, 1}, {MAX, 2}, {MAX, MAX}, {MIN, 0}, {MIN, 1}, {MIN, MAX}, {-MAX, MAX}};
        for (int[] r : refused) {
            PairSorter x = threeOfEight();
            Check.due("4 turn " + r[0] + ", " + r[1], x.turn(r[0], r[1]), 0);
            dueThreeOfEight("4 turn " + r[0] + ", " + r[1] + " changes nothing", x);
        }
    }

    // Promise 4: "or n is below 0"
    private static void turnIsRefusedForFewerThanNone() {
        int[] places = {MIN, -1, 0, 1, 2, 3, 4, MAX};
        int[] counts = {-1, -2, -3, MIN + 1, MIN};
        for (int i : places) {
            for (int n : counts) {
                PairSorter x = threeOfEight();
                Check.due("4 turn " + i + ", " + n, x.turn(i, n), 0);
                dueThreeOfEight("4 turn " + i + ", " + n + " changes nothing", x);
            }
        }
    }

    // Promise 4: "The pairs from place i on, n of them": up to the last, and none or one of them
    private static void turnReachesBothEnds() {
        PairSorter x = threeOfEight();
        Check.due("4 none", x.turn(0, 0), 0);
        Check.due("4 none behind the last", x.turn(3, 0), 0);
        Check.due("4 first alone", x.turn(0, 1), 1);
        Check.due("4 last alone", x.turn(2, 1), 1);
        dueThreeOfEight("4 one or none changes nothing", x);
        Check.due("4 last two", x.turn(1, 2), 2);
        Check.dueKeys("4 last two", x, -5, 9, 0);
        Check.dueTags("4 last two", x, -7, MIN, 6);
        Check.due("4 first two", x.turn(0, 2), 2);
        Check.dueKeys("4 first two", x, 9, -5, 0);
        Check.due("4 all", x.turn(0, 3), 3);
        Check.dueKeys("4 all", x, 0, -5, 9);
        Check.dueTags("4 all", x, 6, -7, MIN);
        PairSorter full = new PairSorter(4096);
        full.fill(4096, 0, 1, 0, 0);
        Check.due("4 a full list", full.turn(0, 4096), 4096);
        Check.due("4 a full list: first", full.keyAt(0), 4095);
        Check.due("4 a full list: middle", full.keyAt(2047), 2048);
        Check.due("4 a full list: last", full.tagAt(4095), 0);
    }

    // Promise 5: "The list is SORTED: THE HEIGHT", for none, one, two and as many as may be
    private static void runOfFewAndOfAll() {
        Check.due("5 none", new PairSorter(1).run(), 0);
        PairSorter one = new PairSorter(1);
        one.put(MIN, 3);
        Check.due("5 one", one.run(), 0);
        Check.dueKeys("5 one", one, MIN);
        Check.dueTags("5 one", one, 3);
        Check.dueSorted("5 two, rising", Check.withKeys(MIN, MAX), 1);
        Check.dueSorted("5 two, falling", Check.withKeys(MAX, MIN), 1);
        Check.dueSorted("5 two, equal", Check.withKeys(5, 5), 1);
        PairSorter full = new PairSorter(4096);
        full.fill(4096, 0, 7919, 4001, 0);
        Check.dueSorted("5 full", full, 7);
        PairSorter alternating = new PairSorter(4096);
        alternating.fill(4096, 0, 1, 2, 0);
        Check.dueSorted("5 full, of two keys", alternating, 9);
    }

    // Promises 6 and 7: "0 when there is none"
    private static void keyAndTagWhereThereIsNone() {
        PairSorter x = threeOfEight();
        for (int i : NO_PLACES_OF_THREE) {
            Check.due("6 keyAt " + i, x.keyAt(i), 0);
            Check.due("7 tagAt " + i, x.tagAt(i), 0);
        }
        x.clear();
        Check.due("6 cleared", x.keyAt(0), 0);
        Check.due("7 cleared", x.tagAt(0), 0);
        PairSorter full = new PairSorter(4096);
        full.fill(4096, 1, 0, 0, 1);
        Check.due("6 last of a full list", full.keyAt(4095), 1);
        Check.due("7 last of a full list", full.tagAt(4095), 4096);
        Check.due("6 behind a full list", full.keyAt(4096), 0);
        Check.due("7 behind a full list", full.tagAt(4096), 0);
    }

    // Promise 6: "The key at place i (0 the first)"; promise 7: "The tag at place i"
    private static void firstAndLastPlace() {
        PairSorter x = threeOfEight();
        Check.due("6 first", x.keyAt(0), -5);
        Check.due("7 first", x.tagAt(0), -7);
        Check.due("6 last", x.keyAt(2), 9);
        Check.due("7 last", x.tagAt(2), MIN);
    }

    // Promise 8: "How many pairs there are", at the ends and after refused calls
    private static void sizeAtItsEnds() {
        PairSorter x = new PairSorter(2);
        Check.due("8 new", x.size(), 0);
        x.fill(-1, 1, 1, 1, 1);
        x.turn(0, 1);
        x.run();
        Check.due("8 still none", x.size(), 0);
        x.put(2, 2);
        Check.due("8 one", x.size(), 1);
        x.fill(MAX, 1, 1, 1, 1);
        Check.due("8 full", x.size(), 2);
        x.put(3, 3);
        x.fill(1, 3, 3, 3, 3);
        x.run();
        Check.due("8 still full", x.size(), 2);
        x.clear();
        Check.due("8 cleared", x.size(), 0);
    }

    // Promise 9: "0 when none was sorted"
    private static void stackHighBeforeAnySorting() {
        PairSorter x = Check.withRuns(400, 200, 100);
        Check.due("9 none sorted", x.stackHigh(), 0);
        x.turn(0, 700);
        Check.due("9 turning is no sorting", x.stackHigh(), 0);
        x.clear();
        x.run();
        Check.due("9 an empty list", x.stackHigh(), 0);
        x.put(1, 1);
        x.run();
        Check.due("9 a list of one", x.stackHigh(), 0);
        x.put(1, 1);
        Check.due("9 a list of two, not sorted", x.stackHigh(), 0);
        x.run();
        Check.due("9 a list of two", x.stackHigh(), 1);
    }

    // Promise 9: "The greatest HEIGHT", be it the first, one between, or the latest
    private static void stackHighIsTheGreatest() {
        PairSorter x = new PairSorter(4096);
        x.fill(100, 0, 1, 0, 0);
        x.run();
        Check.due("9 one", x.stackHigh(), 1);
        x.fill(60, 0, 1, 0, 0);
        x.fill(35, 0, 1, 0, 0);
        Check.due("9 not sorted yet", x.stackHigh(), 1);
        Check.due("9 three", x.run(), 3);
        Check.due("9 the latest is the greatest", x.stackHigh(), 3);
        Check.due("9 one again", x.run(), 1);
        Check.due("9 an earlier one is the greatest", x.stackHigh(), 3);
    }

    // Promise 9: "since the list was cleared (or made)"
    private static void stackHighSinceCleared() {
        PairSorter x = Check.withRuns(400, 200, 100);
        x.run();
        x.clear();
        Check.due("9 cleared", x.stackHigh(), 0);
        x.fill(100, 0, 1, 0, 0);
        x.fill(60, 0, 1, 0, 0);
        x.run();
        Check.due("9 two since cleared", x.stackHigh(), 2);
    }

    // Promise 10: "0 for others"
    private static void workOfOthers() {
        PairSorter x = Check.withRuns(100, 60, 35);
        x.run();
        int[] whats = {MIN, MIN + 1, -3, -2, -1, 4, 5, 256, MAX};
        for (int what : whats) {
            for (int i = -1; i <= 4; i++) {
                Check.due("10 work " + what + ", " + i, x.work(what, i), 0);
            }
        }
        int[] noRuns = {MIN, MIN + 1, -1, 3, 4, 256, 257, 4096, MAX};
        for (int i : noRuns) {
            Check.due("10 run " + i, x.work(3, i), 0);
        }
        Check.dueRuns("10 first and last run", x, 100, 60, 35);
    }

    // Promise 10: of what = 0, 1 and 2 the document says nothing about i: it is not looked at
    private static void workLooksAtPlaceForLengthsAlone() {
        PairSorter x = Check.withRuns(100, 60, 35);
        x.run();
        int[] any = {MIN, -1, 0, 2, 3, MAX};
        for (int i : any) {
            Check.due("10 runs, " + i, x.work(0, i), 3);
            Check.due("10 merges, " + i, x.work(1, i), 2);
            Check.due("10 merged pairs, " + i, x.work(2, i), 95 + 195);
        }
    }

    // Promise 10: "and before any"
    private static void workBeforeAnySorting() {
        PairSorter x = Check.withRuns(100, 60, 35);
        Check.dueNoWork("10 before any", x);
        x.run();
        x.clear();
        Check.dueNoWork("10 cleared", x);
        x.fill(100, 0, 1, 3, 0);
        Check.dueNoWork("10 cleared and filled", x);
    }

    // Promise 10: "Of the latest sorting"
    private static void workIsOfTheLatestSorting() {
        PairSorter x = Check.withRuns(100, 60, 35);
        x.run();
        x.put(MIN, 0);
        x.fill(50, 9, -1, 0, 0);
        x.turn(0, 246);
        Check.dueRuns("10 other calls leave it", x, 100, 60, 35);
        PairSorter again = Check.withRuns(100, 60, 35);
        again.run();
        again.run();
        Check.dueRuns("10 the second sorting", again, 195);
        Check.due("10 no merges in it", again.work(1, 0), 0);
        Check.due("10 no merged pairs in it", again.work(2, 0), 0);
        for (int i = 1; i < 4; i++) {
            Check.due("10 nothing left of the first: run " + i, again.work(3, i), 0);
        }
    }

    // Promise 10: "the length of run i (3), as it was put on the pile"
    private static void workTellsLengthsAsPutOnThePile() {
        PairSorter merged = Check.withRuns(40, 60, 80);
        merged.run();
        Check.dueRuns("10 merged runs keep their lengths", merged, 40, 60, 80);
        PairSorter longer = new PairSorter(64);
        longer.fill(3, 9, -1, 0, 0);
        longer.fill(61, 50, 1, 0, 0);
        longer.run();
        Check.dueRuns("10 a short run has the length that it was brought to", longer, 16, 48);
    }

    // Promise 11: "0 when there is none"
    private static void sortedWhereThereIsNone() {
        PairSorter x = threeOfEight();
        for (int i : NO_PLACES_OF_THREE) {
            Check.due("11 sorted " + i, x.sorted(i), 0);
        }
        x.clear();
        Check.due("11 cleared", x.sorted(0), 0);
        PairSorter full = new PairSorter(4096);
        full.fill(4096, MIN, 1, 0, 0);
        Check.due("11 a full list", full.sorted(0), 4096);
        Check.due("11 the last of a full list", full.sorted(4095), 1);
        Check.due("11 behind a full list", full.sorted(4096), 0);
    }

    // Promise 11: "from place i on (this one, too)", up to the last that is there
    private static void sortedCountsToTheEndOfTheList() {
        PairSorter x = threeOfEight();
        Check.due("11 from the first", x.sorted(0), 3);
        Check.due("11 from the second", x.sorted(1), 2);
        Check.due("11 from the last", x.sorted(2), 1);
    }

    // Promise 11: "each key not below the one before"
    private static void sortedEndsAtAKeyBelow() {
        Check.due("11 equal keys", Check.withKeys(4, 4, 4).sorted(0), 3);
        Check.due("11 one below", Check.withKeys(4, 4, 3).sorted(0), 2);
        Check.due("11 one above", Check.withKeys(4, 4, 5).sorted(0), 3);
        Check.due("11 what is before does not count", Check.withKeys(9, 1, 2).sorted(1), 2);
        Check.due("11 from least to greatest", Check.withKeys(MIN, MAX).sorted(0), 2);
        Check.due("11 from greatest to least", Check.withKeys(MAX, MIN).sorted(0), 1);
        PairSorter tags = new PairSorter(4);
        tags.put(1, 0);
        tags.put(1, 9);
        tags.put(1, 8);
        tags.put(1, -9);
        Check.due("11 tags do not count", tags.sorted(0), 4);
    }

    // Promise 12: "The list is empty"
    private static void clearEmptiesTheList() {
        PairSorter x = new PairSorter(3);
        x.fill(3, 5, 1, 0, 5);
        x.clear();
        Check.due("12 size", x.size(), 0);
        Check.due("12 keyAt", x.keyAt(0), 0);
        Check.due("12 tagAt", x.tagAt(0), 0);
        Check.due("12 sorted", x.sorted(0), 0);
        Check.due("12 turn", x.turn(0, 1), 0);
        Check.due("12 run", x.run(), 0);
        Check.due("12 as much room as before", x.fill(MAX, 8, 0, 0, 1), 3);
        Check.dueKeys("12 as much room as before", x, 8, 8, 8);
        Check.due("12 and no more", x.put(1, 1), false);
    }

    // Promise 12: "nothing was sorted"
    private static void clearForgetsSortings() {
        PairSorter x = Check.withRuns(100, 60, 35);
        x.run();
        x.clear();
        Check.dueNothingSorted("12", x);
        for (int i = 0; i < 4; i++) {
            Check.due("12 run " + i, x.work(3, i), 0);
        }
        x.clear();
        Check.dueNothingSorted("12 an empty list cleared", x);
        PairSorter made = new PairSorter(9);
        made.clear();
        Check.dueNothingSorted("12 a new list cleared", made);
    }

    // "An object is used for at most 512 calls": the last of them is answered as the first
    private static void fiveHundredAndTwelveCalls() {
        PairSorter x = new PairSorter(4096);
        Check.due("512 calls: fill", x.fill(4096, 4095, -1, 0, 0), 4096);
        Check.due("512 calls: run", x.run(), 1);
        for (int calls = 2; calls < 508; calls += 2) {
            Check.due("512 calls: turn", x.turn(0, 2500), 2500);
            Check.due("512 calls: run", x.run(), 2);
        }
        Check.due("512 calls: stackHigh", x.stackHigh(), 2);
        Check.due("512 calls: work", x.work(2, 0), 4096);
        Check.due("512 calls: sorted", x.sorted(0), 4096);
        Check.due("512 calls: tagAt", x.tagAt(4095), 0);
    }

    public static void main(String[] args) {
        newListIsEmpty();
        capIsBroughtIntoItsBounds();
        putIsRefusedWhenFull();
        putTakesAnyKeyAndTag();
        fillTakesWhatThereIsRoomFor();
        fillIsRefusedWhenFull();
        fillOfNoneChangesNothing();
        fillWrapsAround();
        fillWithoutStep();
        fillTakesNoModuloUnlessAboveZero();
        fillModuloIsNeverBelowZero();
        fillWrapsBeforeModulo();
        turnIsRefusedWhenNotAllAreThere();
        turnIsRefusedForFewerThanNone();
        turnReachesBothEnds();
        runOfFewAndOfAll();
        keyAndTagWhereThereIsNone();
        firstAndLastPlace();
        sizeAtItsEnds();
        stackHighBeforeAnySorting();
        stackHighIsTheGreatest();
        stackHighSinceCleared();
        workOfOthers();
        workLooksAtPlaceForLengthsAlone();
        workBeforeAnySorting();
        workIsOfTheLatestSorting();
        workTellsLengthsAsPutOnThePile();
        sortedWhereThereIsNone();
        sortedCountsToTheEndOfTheList();
        sortedEndsAtAKeyBelow();
        clearEmptiesTheList();
        clearForgetsSortings();
        fiveHundredAndTwelveCalls();
        Check.end("the boundary cases of the promises hold");
    }
}
