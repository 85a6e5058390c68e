import java.util.ArrayList;
import java.util.List;
import java.util.function.IntPredicate;
import java.util.function.Supplier;
import java.util.stream.IntStream;

/** Tests that each belong to one sentence of the document, told by its promise (0: the description) and its words. */
abstract class Sentences {
    static final int NONE = SnapshotVolumes.NOT_FOUND;
    static final int BAD = SnapshotVolumes.BAD_VALUE;
    static final int FULL = SnapshotVolumes.FULL;
    static final int NOT = SnapshotVolumes.NOT_ALLOWED;
    static final int OVER = SnapshotVolumes.OVER;
    static final int POOL = SnapshotVolumes.POOL;
    static final int CLONES = SnapshotVolumes.CLONES;
    static final int MIN = Integer.MIN_VALUE;
    static final int MAX = Integer.MAX_VALUE;

    static final Absent NO_VOLUME = new Absent(outside(0, 5), 3, 5);
    static final Absent NO_SNAPSHOT = new Absent(outside(0, 15), 3, 4, 5, 6, 7, 8, 9, 10, 11, 12, 13, 14, 15);
    static final Absent NO_VERSION = new Absent(outside(0, 21), 3, 4, 5, 6, 7, 8, 9, 10, 11, 12, 13, 14, 15, 19, 21);
    static final int[] NO_ADDRESS = outside(0, 11);

    static final List<Told> TOLD = new ArrayList<>();
    static int answers = 0;
    static int wrong = 0;
    private static Told now = new Told(0, "");

    record Told(int promise, String words) {
    }

    /** Numbers of no such thing: never in any pool, and (gone or not come yet) not in Pools.busy. */
    record Absent(int[] anywhere, int... inBusy) {
    }

    /** Asks a pool with one number. */
    interface Asked {
        int of(SnapshotVolumes x, int number);
    }

    /** One call, or some. */
    interface Calls {
        void on(SnapshotVolumes x);
    }

    static void test(int promise, String words, Runnable body) {
        now = new Told(promise, words);
        TOLD.add(now);
        int before = answers;
        try {
            body.run();
        } catch (RuntimeException e) {
            fail("the test ends with " + e);
        }
        if (answers == before) {
            fail("the test looks at no answer");
        }
    }

    static void due(String call, double got, double want) {
        answers++;
        if (got != want) {
            fail(call + " answered " + got + ", due is " + want);
        }
    }

    static void due(String call, boolean got, boolean want) {
        due(call, got ? 1 : 0, want ? 1 : 0);
    }

    static void same(String call, String got, String want) {
        answers++;
        if (!got.equals(want)) {
            fail(call + "\n" + got + "\ndue is\n" + want);
        }
    }

    static void thrown(String call, Runnable body) {
        answers++;
        String got = "answered";
        try {
            body.run();
        } catch (RuntimeException e) {
            got = e.getClass() == IndexOutOfBoundsException.class ? "" : "threw " + e;
        }
        if (!got.isEmpty()) {
            fail(call + " " + got + ", due is an IndexOutOfBoundsException");
        }
    }

    private static void fail(String text) {
        wrong++;
        System.out.println("promise " + now.promise() + ", \"" + now.words() + "\": " + text);
    }

    /** The call answers this for each of the numbers, on one pool of Pools.busy. */
    static void answersFor(int[] numbers, int want, Asked asked) {
        answersFor(Pools.busy(), numbers, want, asked);
    }

    // In Pools.full, what wraps around from a volume to a snapshot comes upon one that is there.
    static void answersFor(Absent absent, int want, Asked asked) {
        answersFor(Pools.busy(), join(absent.anywhere(), absent.inBusy()), want, asked);
        answersFor(Pools.full(), absent.anywhere(), want, asked);
    }

    private static void answersFor(SnapshotVolumes x, int[] numbers, int want, Asked asked) {
        for (int number : numbers) {
            due("the call with " + number, asked.of(x, number), want);
        }
    }

    /** The call throws for each of the numbers, on one pool of Pools.busy. */
    static void throwsFor(int[] numbers, Asked asked) {
        throwsFor(Pools.busy(), numbers, asked);
    }

    static void throwsFor(Absent absent, Asked asked) {
        throwsFor(Pools.busy(), join(absent.anywhere(), absent.inBusy()), asked);
        throwsFor(Pools.full(), absent.anywhere(), asked);
    }

    private static void throwsFor(SnapshotVolumes x, int[] numbers, Asked asked) {
        for (int number : numbers) {
            thrown("the call with " + number, () -> asked.of(x, number));
        }
    }

    /** The calls leave no trace, not in what can be undone either. */
    static void unchanged(String call, Supplier<SnapshotVolumes> pool, Calls calls) {
        int changes = pool.get().undoCount();
        for (int undone = 0; undone <= changes; undone++) {
            SnapshotVolumes with = pool.get();
            SnapshotVolumes without = pool.get();
            calls.on(with);
            for (int i = 0; i < undone; i++) {
                with.undo();
                without.undo();
            }
            same(call + ", then " + undone + " undone", Pools.dump(with), Pools.dump(without));
        }
    }

    static String row(SnapshotVolumes x, int volume) {
        StringBuilder row = new StringBuilder();
        for (int k = 0; k < 16 && x.snapshotAt(volume, k) != NONE; k++) {
            row.append(k == 0 ? "" : " ").append(x.snapshotAt(volume, k));
        }
        return row.toString();
    }

    static int[] join(int[] numbers, int... more) {
        return IntStream.concat(IntStream.of(numbers), IntStream.of(more)).toArray();
    }

    /** Numbers beside the range: next to it, far from it, and such as would wrap around into it. */
    static int[] outside(int low, int high) {
        IntStream near = IntStream.concat(IntStream.rangeClosed(low - 70, low - 1), IntStream.rangeClosed(high + 1, high + 70));
        IntStream far = IntStream.of(MIN, MIN + 1, MIN + 16, MIN + 22, MAX, MAX - 1, MAX - 15, MAX - 16, -low, -high);
        IntStream wraps = IntStream.of(8, 16, 24, 30, 31).flatMap(k -> IntStream.of((1 << k) + low, (1 << k) + high,
            low - (1 << k), high - (1 << k)));
        IntPredicate beside = number -> number < low || number > high;
        return IntStream.concat(near, IntStream.concat(far, wraps)).filter(beside).distinct().toArray();
    }
}
