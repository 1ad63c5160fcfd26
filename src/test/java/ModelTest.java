import java.util.ArrayList;
import java.util.Collections;
import java.util.Comparator;
import java.util.List;
import java.util.Random;

/** Long runs of calls, answered by PairSorter and by a model that follows the document's words. */
public final class ModelTest {
    private static final int OBJECTS = 1500;
    private static final int CALLS = 512;
    private static final int MOST_PRINTED = 20;

    private record Pair(int key, int tag) { }

    private static final class Model {
        final int cap;
        List<Pair> list = new ArrayList<>();
        List<Integer> runs = new ArrayList<>();
        List<Integer> pile = new ArrayList<>();
        long merges;
        long merged;
        int stackHigh;

        Model(int cap) {
            this.cap = cap < 1 ? 1 : cap > 4096 ? 4096 : cap;
        }

        int fill(int n, int key, int step, int m, int tag) {
            int count = 0;
            while (count < n && list.size() < cap) {
                list.add(new Pair(m > 0 ? (int) (((long) key % m + m) % m) : key, tag));
                key += step;
                tag++;
                count++;
            }
            return count;
        }

        int turn(int i, int n) {
            if (i < 0 || n < 0 || (long) i + n > list.size()) {
                return 0;
            }
            Collections.reverse(list.subList(i, i + n));
            return n;
        }

        int sorted(int i) {
            if (i < 0 || i >= list.size()) {
                return 0;
            }
            int count = 1;
            while (i + count < list.size() && list.get(i + count).key >= list.get(i + count - 1).key) {
                count++;
            }
            return count;
        }

        int falling(int i) {
            int count = 1;
            while (i + count < list.size() && list.get(i + count).key < list.get(i + count - 1).key) {
                count++;
            }
            return count;
        }

        int run() {
            runs.clear();
            pile.clear();
            merges = 0;
            merged = 0;
            int n = list.size();
            if (n < 2) {
                return 0;
            }
            int halvings = 0;
            while (n >> halvings >= 32) {
                halvings++;
            }
            int least = (n >> halvings) + (n % (1 << halvings) != 0 ? 1 : 0);
            int height = 0;
            for (int at = 0; at < n; ) {
                int length = Math.max(sorted(at), falling(at));
                if (length < least) {
                    length = Math.min(least, n - at);
                }
                at += length;
                runs.add(length);
                pile.add(length);
                height = Math.max(height, pile.size());
                while (bringInOrder()) { }
            }
            while (pile.size() >= 2) {
                merge(pile.size() >= 3 && top(2) < top(0) ? 2 : 1);
            }
            list.sort(Comparator.comparingInt(Pair::key));
            stackHigh = Math.max(stackHigh, height);
            return height;
        }

        int top(int depth) {
            return pile.get(pile.size() - 1 - depth);
        }

        boolean bringInOrder() {
            int count = pile.size();
            if (count < 2) {
                return false;
            }
            boolean three = count >= 3 && !(top(2) > top(1) + top(0));
            boolean four = count >= 4 && !(top(3) > top(2) + top(1));
            if (three || four) {
                merge(top(2) < top(0) ? 2 : 1);
            } else if (!(top(1) > top(0))) {
                merge(1);
            } else {
                return false;
            }
            return true;
        }

        void merge(int depth) {
            int place = pile.size() - 1 - depth;
            int both = pile.get(place) + pile.remove(place + 1);
            pile.set(place, both);
            merges++;
            merged += both;
        }

        long work(int what, int i) {
            return switch (what) {
                case 0 -> runs.size();
                case 1 -> merges;
                case 2 -> merged;
                case 3 -> i >= 0 && i < runs.size() ? runs.get(i) : 0;
                default -> 0;
            };
        }

        void clear() {
            list.clear();
            runs.clear();
            merges = 0;
            merged = 0;
            stackHigh = 0;
        }
    }

    private static final int[] EDGES = {0, 1, -1, 2, 31, 32, 33, 4095, 4096, 4097,
        Integer.MAX_VALUE, Integer.MIN_VALUE, Integer.MAX_VALUE - 1, Integer.MIN_VALUE + 1};

    private static int any(Random r, int bound) {
        int kind = r.nextInt(20);
        if (kind == 0) {
            return EDGES[r.nextInt(EDGES.length)];
        }
        return kind == 1 ? r.nextInt() : r.nextInt(bound * 2 + 1) - bound / 4;
    }

    private static int place(Random r, Model m) {
        return r.nextInt(8) == 0 ? any(r, 100) : r.nextInt(m.list.size() + 2) - 1;
    }

    private static int wrong = 0;

    private static void same(String call, long got, long want) {
        if (got != want) {
            wrong++;
            if (wrong <= MOST_PRINTED) {
                System.out.println(call + " answered " + got + ", due is " + want);
            }
        }
    }

    private static void sameList(String call, PairSorter x, Model m) {
        same(call + ", size", x.size(), m.list.size());
        for (int i = 0; i < m.list.size(); i++) {
            same(call + ", key " + i, x.keyAt(i), m.list.get(i).key);
            same(call + ", tag " + i, x.tagAt(i), m.list.get(i).tag);
        }
    }

    private static void sameWork(String call, PairSorter x, Model m) {
        same(call + ", stackHigh", x.stackHigh(), m.stackHigh);
        for (int what = -1; what < 3; what++) {
            same(call + ", work " + what, x.work(what, 0), m.work(what, 0));
        }
        for (int i = 0; i <= m.runs.size(); i++) {
            same(call + ", run " + i, x.work(3, i), m.work(3, i));
        }
    }

    private static void oneCall(String at, Random r, PairSorter x, Model m) {
        int a = place(r, m);
        int b = any(r, 60);
        switch (r.nextInt(12)) {
            case 0, 1 -> {
                int key = any(r, 20);
                same(at + " put", x.put(key, b) ? 1 : 0, m.fill(1, key, 0, 0, b));
            }
            case 2, 3, 4 -> {
                int n = any(r, r.nextInt(120) + 1);
                int key = any(r, 50);
                int step = r.nextInt(3) == 0 ? any(r, 100) : r.nextInt(5) - 2;
                int modulo = r.nextBoolean() ? 0 : any(r, 60);
                same(at + " fill", x.fill(n, key, step, modulo, b), m.fill(n, key, step, modulo, b));
            }
            case 5 -> {
                int n = r.nextBoolean() ? b : r.nextInt(m.list.size() + 1);
                same(at + " turn", x.turn(a, n), m.turn(a, n));
            }
            case 6 -> {
                if (r.nextInt(5) == 0) {
                    same(at + " run", x.run(), m.run());
                    sameList(at + " run", x, m);
                    sameWork(at + " run", x, m);
                }
            }
            case 7 -> same(at + " sorted", x.sorted(a), m.sorted(a));
            case 8 -> {
                boolean there = a >= 0 && a < m.list.size();
                same(at + " keyAt", x.keyAt(a), there ? m.list.get(a).key : 0);
                same(at + " tagAt", x.tagAt(a), there ? m.list.get(a).tag : 0);
            }
            case 9 -> same(at + " work", x.work(b % 5, a), m.work(b % 5, a));
            case 10 -> sameWork(at, x, m);
            default -> {
                if (r.nextInt(15) == 0) {
                    x.clear();
                    m.clear();
                }
            }
        }
    }

    public static void main(String[] args) {
        int tallest = 0;
        for (int object = 0; object < OBJECTS && wrong == 0; object++) {
            Random r = new Random(object);
            int cap = r.nextInt(4) == 0 ? 4096 : any(r, 600);
            PairSorter x = new PairSorter(cap);
            Model m = new Model(cap);
            for (int call = 0; call < CALLS && wrong == 0; call++) {
                oneCall("object " + object + ", call " + call, r, x, m);
            }
            sameList("object " + object + " at its end", x, m);
            tallest = Math.max(tallest, m.stackHigh);
        }
        // A model that never builds a pile would agree with anything.
        same("the tallest pile is one of at least 5 runs", tallest >= 5 ? 1 : 0, 1);
        System.out.println(wrong == 0 ? "the model agrees" : "the model does not agree");
        if (wrong != 0) {
            System.exit(1);
        }
    }
}
