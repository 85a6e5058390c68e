import java.util.function.IntSupplier;

/** For each promise of the document: ordinary inputs, the edges it names, and wrong inputs. */
public final class PromiseTest {
    private static final int NONE = SnapshotVolumes.NOT_FOUND;
    private static final int BAD = SnapshotVolumes.BAD_VALUE;
    private static final int FULL = SnapshotVolumes.FULL;
    private static final int NOT = SnapshotVolumes.NOT_ALLOWED;
    private static final int OVER = SnapshotVolumes.OVER;
    private static final int SYNTAX = SnapshotVolumes.SYNTAX_ERROR;
    private static final int RANGE = SnapshotVolumes.RANGE_ERROR;
    private static final int NAME = SnapshotVolumes.NAME_ERROR;
    private static final int DUPLICATE = SnapshotVolumes.DUPLICATE_ERROR;
    private static final int COUNT = SnapshotVolumes.COUNT_ERROR;
    private static final int FULL_ERROR = SnapshotVolumes.FULL_ERROR;
    private static final int[] NO_INDEX = {-1, Integer.MIN_VALUE, Integer.MAX_VALUE, Integer.MAX_VALUE - 15, 6, 22, 32, 48};

    // Snapshot s (0) has the blocks 1 (5 units) and 2 (3), snapshot t (1) has 4 (4 units) and 2, the
    // live state of a (16) has 4, that of c (17) has 1, 2 and 6 (6 units); t is held.
    private static final String FAMILY = "volume a;write a 0 5;write a 1 3;snap a s;write a 0 4;snap a t;trim a 1;"
        + "clone s c;write c 2 6;hold t;";

    private static int promise = 0;
    private static int made = 0;
    private static int wrong = 0;

    public static void main(String[] args) {
        newObject();
        feedAndLoad();
        textSyntax();
        textMeaning();
        numbersOfThings();
        versions();
        blocks();
        space();
        deadBlocks();
        freeing();
        fewest();
        writing();
        volumesAndSnapshots();
        promoting();
        destroying();
        rollingBack();
        holdsAndLimits();
        undoing();
        output();
        System.out.println("promises: " + made + " answers looked at, " + wrong + " not as due");
        if (wrong != 0) {
            System.exit(1);
        }
    }

    // ---- Helpers ----

    private static void due(String call, double got, double want) {
        made++;
        if (got != want) {
            wrong++;
            System.out.println("promise " + promise + ": " + call + " answered " + got + ", due is " + want);
        }
    }

    private static void due(String call, boolean got, boolean want) {
        due(call, got ? 1 : 0, want ? 1 : 0);
    }

    private static void bounds(String call, IntSupplier answer) {
        made++;
        String got;
        try {
            got = "answered " + answer.getAsInt();
        } catch (RuntimeException e) {
            got = e.getClass() == IndexOutOfBoundsException.class ? "" : "threw " + e;
        }
        if (!got.isEmpty()) {
            wrong++;
            System.out.println("promise " + promise + ": " + call + " " + got + ", due is an IndexOutOfBoundsException");
        }
    }

    private static SnapshotVolumes family() {
        return Pools.loaded(FAMILY);
    }

    private static void error(String text, int code, int position) {
        SnapshotVolumes x = new SnapshotVolumes();
        due("load of " + text, Pools.load(x, text), code);
        due("errorPosition of " + text, x.errorPosition(), position);
    }

    private static void good(String text, int statements) {
        error(text, statements, NONE);
    }

    private static void dueOut(SnapshotVolumes x, int volume, String want) {
        String got = Pools.written(x, volume);
        due("writeOut(" + volume + "): " + got + " for " + want, got.equals(want), true);
    }

    // ---- The promises ----

    private static void newObject() {
        promise = 1;
        SnapshotVolumes x = new SnapshotVolumes();
        for (int what = 0; what <= 5; what++) {
            due("count(" + what + ")", x.count(what), 0);
        }
        due("getSetting(POOL)", x.getSetting(SnapshotVolumes.POOL), 200);
        due("getSetting(CLONES)", x.getSetting(SnapshotVolumes.CLONES), 3);
        due("undoCount", x.undoCount(), 0);
        due("undo", x.undo(), NONE);
        due("errorPosition", x.errorPosition(), NONE);
        due("outputAt(0)", x.outputAt(0), NONE);
        due("load(1)", x.load(1), BAD);
        due("used", x.used(), 0);
        SnapshotVolumes y = new SnapshotVolumes();
        x.newVolume();
        due("count(0) of another object", y.count(0), 0);
    }

    private static void feedAndLoad() {
        promise = 2;
        SnapshotVolumes x = new SnapshotVolumes();
        due("feed", x.feed(0, 0, 0, 0, 0), 20);
        for (int i = 2; i <= 50; i++) {
            due("feed " + i, x.feed(0x20202020, 0x20202020, 0x20202020, 0x20202020, 0x20202020), 20 * i);
        }
        due("feed 51", x.feed(0, 0, 0, 0, 0), FULL);
        due("load(1001)", x.load(1001), BAD);
        due("load(1000)", x.load(1000), SYNTAX);
        due("feed behind the load", x.feed(0x766f6c75, 0x6d652061, 0x3b20200a, 0x0a202020, 0x20202020), 20);
        due("load(20)", x.load(20), 1);
        x.feed(0x20202020, 0x20202020, 0x20202020, 0x20202020, 0x202020ff);
        due("load of a byte 255", x.load(20), SYNTAX);
        due("its position", x.errorPosition(), 19);

        promise = 3;
        x = family();
        due("load(-1)", x.load(-1), BAD);
        due("load(1)", x.load(1), BAD);
        x.newVolume();
        due("length of the text", Pools.feed(x, "volume z;volume z;"), 20);
        due("load(21)", x.load(21), BAD);
        due("load with an error", x.load(18), DUPLICATE);
        due("load empties the buffer", x.load(1), BAD);
        due("count(0) is unchanged", x.count(0), 3);
        due("undoCount is unchanged", x.undoCount(), 1);
        due("undo behind a bad load", x.undo(), 0);
        x.setSetting(SnapshotVolumes.POOL, 7);
        x.setSetting(SnapshotVolumes.CLONES, 0);
        x.writeOut(0);
        due("good load", Pools.load(x, "volume z;write z 3 9;"), 2);
        due("undoCount", x.undoCount(), 0);
        due("undo", x.undo(), NONE);
        due("POOL", x.getSetting(SnapshotVolumes.POOL), 200);
        due("CLONES", x.getSetting(SnapshotVolumes.CLONES), 3);
        due("time", x.count(3), 1);
        due("volumes", x.count(0), 1);
        due("snapshots", x.count(1), 0);
        due("output stays", x.outputAt(0), 'a');
        due("empty load", x.load(0), 0);
        due("volumes", x.count(0), 0);
        due("time", x.count(3), 0);
        Pools.feed(x, "volume a;volume b;  ");
        due("load of a part", x.load(9), 1);
        due("volumes", x.count(0), 1);

        x = Pools.loaded("set pool 50;" + FAMILY);
        x.setQuota(0, 1);
        due("a second load", Pools.load(x, "set pool 60;volume b;write b 11 9;snap b t;hold t;"), 5);
        due("POOL", x.getSetting(SnapshotVolumes.POOL), 60);
        due("quota", x.volumeNumber(0, 2), 0);
        due("held", x.hold(0, false), 0);
        due("blocks", x.count(2), 1);
        due("an error", Pools.load(x, "set pool 70;set pool 70;"), DUPLICATE);
        due("a third load", Pools.load(x, "set pool 80;volume b;write b 0 1;trim b 11;snap b t;hold t;"), 6);
        due("held", x.hold(0, false), 0);

        promise = 4;
        x = new SnapshotVolumes();
        Pools.load(x, "  volume 3;");
        due("errorPosition", x.errorPosition(), 9);
        x.load(-1);
        due("errorPosition behind BAD_VALUE", x.errorPosition(), 9);
        x.newVolume();
        x.undo();
        due("errorPosition behind undo", x.errorPosition(), 9);
        x.load(0);
        due("errorPosition behind a good load", x.errorPosition(), NONE);
        Pools.load(x, "_");
        due("errorPosition at the start", x.errorPosition(), 0);
    }

    private static void textSyntax() {
        promise = 3;
        good("", 0);
        good(" \n ", 0);
        good("volume a;", 1);
        good("\n volume\na\n;\n", 1);
        good("volume a;write a0 1;", 2);
        good("volume a;write a 0 00000000000000000000000000000001;", 2);
        good("set pool1;set clones0;", 2);
        good("set clones 5;set pool 999;", 2);
        good("volume volume;snap volume snap;clone snap clone;write clone 0 1;", 4);
        good("volume abcdef;snap abcdef abcdef;hold abcdef;", 3);
        error(";", SYNTAX, 0);
        error("volume a;;", SYNTAX, 9);
        error("volume", SYNTAX, 6);
        error("volume a", SYNTAX, 8);
        error("volume a  ", SYNTAX, 10);
        error("volume a b;", SYNTAX, 9);
        error("volume a volume b;", SYNTAX, 9);
        error("volumea;", SYNTAX, 0);
        error("Volume a;", SYNTAX, 0);
        error("7;", SYNTAX, 0);
        error("volume abcdefg;", SYNTAX, 7);
        error("volume ;", SYNTAX, 7);
        error("volume 1;", SYNTAX, 7);
        error("volume a\t;", SYNTAX, 8);
        error("volume a;write abcdefg 0 1;", SYNTAX, 15);
        error("volume a;write a b 1;", SYNTAX, 17);
        error("volume a;write a 0 b;", SYNTAX, 19);
        error("volume a;write a 0;", SYNTAX, 18);
        error("volume a;write a 0 1 1;", SYNTAX, 21);
        error("volume a;write a -1 1;", SYNTAX, 17);
        error("volume a;trim a;", SYNTAX, 15);
        error("volume a;trim a 1", SYNTAX, 17);
        error("volume a;snap a;", SYNTAX, 15);
        error("volume a;snap a 4;", SYNTAX, 16);
        error("volume a;snap a s;clone s;", SYNTAX, 25);
        error("hold;", SYNTAX, 4);
        error("set;", SYNTAX, 3);
        error("set a 1;", SYNTAX, 4);
        error("set pool;", SYNTAX, 8);
        error("set pool a;", SYNTAX, 9);
        error("set pool 5 5;", SYNTAX, 11);
        error("set 5;", SYNTAX, 4);
        error("volume a" + (char) 0 + ";", SYNTAX, 8);
        error("volume a" + (char) 233 + ";", SYNTAX, 8);
        error("volume a`;", SYNTAX, 8);
        error("volume a{;", SYNTAX, 8);
        error("volume a/;", SYNTAX, 8);
        error("volume a:;", SYNTAX, 8);
    }

    private static void textMeaning() {
        promise = 3;
        error("volume a;write a 12 1;", RANGE, 17);
        error("volume a;write a 0 0;", RANGE, 19);
        error("volume a;write a 0 10;", RANGE, 19);
        error("volume a;write a 4294967296 1;", RANGE, 17);
        error("volume a;write a 0 18446744073709551617;", RANGE, 19);
        error("volume a;trim a 12;", RANGE, 16);
        error("set pool 0;", RANGE, 9);
        error("set pool 1000;", RANGE, 9);
        error("set clones 6;", RANGE, 11);
        error("write a 0 1;", NAME, 6);
        error("trim a 99;", NAME, 5);
        error("snap a s;", NAME, 5);
        error("volume a;clone a b;", NAME, 15);
        error("volume a;hold a;", NAME, 14);
        error("volume a;snap a s;write s 0 1;", NAME, 24);
        error("volume a;volume a;", DUPLICATE, 16);
        error("volume a;snap a s;snap a s;", DUPLICATE, 25);
        error("volume a;snap a s;clone s a;", DUPLICATE, 26);
        error("volume a;snap a s;hold s;hold s;", DUPLICATE, 30);
        error("set pool 5;set clones 1;set pool 0;", DUPLICATE, 28);
        error("set clones 1;set clones 1;", DUPLICATE, 17);
        String six = "volume a;volume b;volume c;volume d;volume e;volume f;";
        good(six, 6);
        error(six + "volume f;", COUNT, 54);
        error(six + "clone g g;", COUNT, 54);
        error(six + "snap a s;clone s g;", COUNT, 63);
        StringBuilder snaps = new StringBuilder("volume a;");
        for (char c = 'a'; c < 'a' + 16; c++) {
            snaps.append("snap a ").append(c).append(';');
        }
        good(snaps.toString(), 17);
        error(snaps + "snap b a;", COUNT, snaps.length());
        String three = "volume a;snap a s;clone s b;clone s c;clone s d;";
        error(three + "clone s a;", COUNT, three.length() + 6);
        error(three + "set clones 1;clone s e;", COUNT, three.length() + 19);
        good("set clones 4;" + three + "clone s e;", 7);
        error("volume a;snap a s;set clones 0;clone s b;", COUNT, 37);
        error("set pool 8;volume a;write a 0 9;", FULL_ERROR, 30);
        good("set pool 9;volume a;write a 0 9;write a 0 9;", 4);
        error("set pool 9;volume a;write a 0 9;snap a s;write a 0 1;", FULL_ERROR, 51);
        error("volume a;write a 0 9;set pool 5;write a 0 6;", FULL_ERROR, 42);
        good("volume a;write a 0 9;set pool 5;write a 0 5;", 4);
        good("volume a;write a 11 9;trim a 11;", 3);
        error("volume a;snap a s;snap a t;hold s;hold t;hold s;", DUPLICATE, 46);
        error("xet pool 1;", SYNTAX, 0);
        error("set xool 1;", SYNTAX, 4);
        SnapshotVolumes x = Pools.loaded("set pool 20;set clones 1;volume a;trim a 3;write a 3 9;trim a 3;write a 3 8;snap a s;hold s;");
        due("used", x.used(), 8);
        due("time", x.count(3), 3);
        due("birth", x.blockAt(16, 3), 2);
        due("held", x.snapshotNumber(0, 2), 1);
        due("POOL", x.getSetting(SnapshotVolumes.POOL), 20);
        due("CLONES", x.getSetting(SnapshotVolumes.CLONES), 1);
        due("quota", x.volumeNumber(0, 2), 0);
    }

    private static void numbersOfThings() {
        promise = 5;
        SnapshotVolumes x = family();
        int[] counts = {2, 2, 4, 6, 2, 2};
        for (int what = 0; what < 6; what++) {
            due("count(" + what + ")", x.count(what), counts[what]);
        }
        due("count(-1)", x.count(-1), BAD);
        due("count(6)", x.count(6), BAD);
        x.destroyVolume(1);
        x.destroy(0);
        x.newVolume();
        int[] then = {3, 2, 2, 6, 2, 1};
        for (int what = 0; what < 6; what++) {
            due("count(" + what + ") behind destroying", x.count(what), then[what]);
        }

        promise = 6;
        x = Pools.loaded("volume a;volume abcdef;volume z;snap a a;snap a zz;");
        due("volume a", x.named(false, Pools.letters("a")), 0);
        due("volume abcdef", x.named(false, Pools.letters("abcdef")), 1);
        due("volume z", x.named(false, 26 << 25), 2);
        due("snapshot a", x.named(true, 1 << 25), 0);
        due("snapshot zz", x.named(true, Pools.letters("zz")), 1);
        due("snapshot z", x.named(true, Pools.letters("z")), NONE);
        due("volume abcde", x.named(false, Pools.letters("abcde")), NONE);
        due("a gap in the name", x.named(false, 1 << 25 | 1 << 15), NONE);
        due("a with a high bit", x.named(false, 1 << 25 | 1 << 30), NONE);
        due("a with the highest bit", x.named(false, 1 << 25 | 1 << 31), NONE);
        due("a at the low end", x.named(false, 1), NONE);
        x.newVolume();
        x.take(0);
        due("no name", x.named(false, 0), NONE);
        due("no name", x.named(true, 0), NONE);
        x.destroy(1);
        due("a name that is gone", x.named(true, Pools.letters("zz")), NONE);
        x.undo();
        due("and is back", x.named(true, Pools.letters("zz")), 1);

        promise = 7;
        x = new SnapshotVolumes();
        x.newVolume();
        due("undoCount", x.undoCount(), 1);
        x.write(0, 0, 0);
        due("undoCount behind an error", x.undoCount(), 1);
        for (int i = 0; i < 9; i++) {
            x.write(0, 0, 1);
        }
        due("undoCount", x.undoCount(), 8);
        x.undo();
        due("undoCount", x.undoCount(), 7);

        promise = 8;
        x.setSetting(SnapshotVolumes.POOL, 999);
        due("POOL", x.getSetting(0), 999);
        due("CLONES", x.getSetting(1), 3);
        due("getSetting(2)", x.getSetting(2), BAD);
        due("getSetting(-1)", x.getSetting(-1), BAD);

        promise = 9;
        x = family();
        boolean[] there = {true, true, false, false};
        for (int i = 0; i < 4; i++) {
            due("isThere(" + i + ")", x.isThere(i), there[i]);
            due("isThere(16 + " + i + ")", x.isThere(16 + i), there[i]);
        }
        for (int version : new int[] {-1, -16, 15, 21, 22, 31, 32, 48, Integer.MAX_VALUE, Integer.MIN_VALUE}) {
            due("isThere(" + version + ")", x.isThere(version), false);
        }
        x.destroyVolume(1);
        due("isThere(17)", x.isThere(17), false);

        promise = 10;
        x = family();
        x.setQuota(1, 50);
        due("origin of a", x.volumeNumber(0, 0), NONE);
        due("snapshots of a", x.volumeNumber(0, 1), 2);
        due("quota of a", x.volumeNumber(0, 2), 0);
        due("origin of c", x.volumeNumber(1, 0), 0);
        due("snapshots of c", x.volumeNumber(1, 1), 0);
        due("quota of c", x.volumeNumber(1, 2), 50);
        due("volumeNumber(0, 3)", x.volumeNumber(0, 3), BAD);
        due("volumeNumber(0, -1)", x.volumeNumber(0, -1), BAD);
        noVolume("volumeNumber", x, v -> x10.volumeNumber(v, 9));

        promise = 11;
        due("volume of t", x.snapshotNumber(1, 0), 0);
        due("time of s", x.snapshotNumber(0, 1), 3);
        due("time of t", x.snapshotNumber(1, 1), 5);
        due("s held", x.snapshotNumber(0, 2), 0);
        due("t held", x.snapshotNumber(1, 2), 1);
        due("clones of s", x.snapshotNumber(0, 3), 1);
        due("clones of t", x.snapshotNumber(1, 3), 0);
        due("place of s", x.snapshotNumber(0, 4), 0);
        due("place of t", x.snapshotNumber(1, 4), 1);
        due("snapshotNumber(0, 5)", x.snapshotNumber(0, 5), BAD);
        due("snapshotNumber(0, -1)", x.snapshotNumber(0, -1), BAD);
        noSnapshot("snapshotNumber", x, s -> x10.snapshotNumber(s, 9));

        promise = 12;
        due("snapshotAt(0, 0)", x.snapshotAt(0, 0), 0);
        due("snapshotAt(0, 1)", x.snapshotAt(0, 1), 1);
        due("snapshotAt(0, 2)", x.snapshotAt(0, 2), NONE);
        due("snapshotAt(0, -1)", x.snapshotAt(0, -1), NONE);
        due("snapshotAt(1, 0)", x.snapshotAt(1, 0), NONE);
        noVolume("snapshotAt", x, v -> x10.snapshotAt(v, 0));

        promise = 13;
        due("clonesOf(0)", x.clonesOf(0), 2);
        due("clonesOf(1)", x.clonesOf(1), 0);
        x.clone(0);
        due("clonesOf(0)", x.clonesOf(0), 6);
        x.destroyVolume(1);
        due("clonesOf(0) without the first clone", x.clonesOf(0), 4);
        noSnapshot("clonesOf", x, s -> x10.clonesOf(s));
    }

    private interface Asked {
        int of(int index);
    }

    private static SnapshotVolumes x10;

    private static void noVolume(String call, SnapshotVolumes x, Asked asked) {
        x10 = x;
        for (int index : NO_INDEX) {
            bounds(call + " of volume " + index, () -> asked.of(index));
        }
        bounds(call + " of volume 5", () -> asked.of(5));
        bounds(call + " of volume 16", () -> asked.of(16));
    }

    private static void noSnapshot(String call, SnapshotVolumes x, Asked asked) {
        x10 = x;
        for (int index : NO_INDEX) {
            bounds(call + " of snapshot " + index, () -> asked.of(index));
        }
        bounds(call + " of snapshot 15", () -> asked.of(15));
        bounds(call + " of snapshot 16", () -> asked.of(16));
    }

    private static void noVersion(String call, SnapshotVolumes x, Asked asked) {
        x10 = x;
        for (int index : NO_INDEX) {
            bounds(call + " of version " + index, () -> asked.of(index));
        }
        bounds(call + " of version 15", () -> asked.of(15));
        bounds(call + " of version 21", () -> asked.of(21));
    }

    private static void noAddress(String call, SnapshotVolumes x, Asked asked) {
        x10 = x;
        for (int address : new int[] {-1, 12, Integer.MAX_VALUE, Integer.MIN_VALUE}) {
            bounds(call + " at address " + address, () -> asked.of(address));
        }
    }

    private static void versions() {
        promise = 14;
        SnapshotVolumes x = family();
        due("before(0)", x.before(0), NONE);
        due("before(1)", x.before(1), 0);
        due("before(16)", x.before(16), 1);
        due("before(17)", x.before(17), 0);
        x.newVolume();
        due("before(18)", x.before(18), NONE);
        x.take(1);
        due("before(2)", x.before(2), 0);
        due("before(17)", x.before(17), 2);
        noVersion("before", x, w -> x10.before(w));

        promise = 15;
        due("behind(0)", x.behind(0), 1);
        due("behind(1)", x.behind(1), 16);
        due("behind(2)", x.behind(2), 17);
        noSnapshot("behind", x, s -> x10.behind(s));

        promise = 16;
        int[][] depths = {{0, 0}, {1, 1}, {2, 1}, {16, 2}, {17, 2}, {18, 0}};
        for (int[] depth : depths) {
            due("depthOf(" + depth[0] + ")", x.depthOf(depth[0]), depth[1]);
        }
        noVersion("depthOf", x, w -> x10.depthOf(w));

        promise = 17;
        int[][] commons = {{16, 17, 0}, {1, 16, 1}, {17, 17, 17}, {1, 2, 0}, {2, 17, 2}, {0, 17, 0}, {18, 16, NONE}, {18, 18, 18}};
        for (int[] common : commons) {
            due("common(" + common[0] + ", " + common[1] + ")", x.common(common[0], common[1]), common[2]);
            due("common(" + common[1] + ", " + common[0] + ")", x.common(common[1], common[0]), common[2]);
        }
        SnapshotVolumes alone = new SnapshotVolumes();
        alone.newVolume();
        for (int v = 1; v < 6; v++) {
            alone.newVolume();
            due("common of a live state alone", alone.common(16 + v, 16 + v), 16 + v);
            due("common of two alone", alone.common(16 + v, 15 + v), NONE);
        }
        noVersion("common", x, w -> x10.common(w, 0));
        noVersion("common", x, w -> x10.common(0, w));
    }

    private static void blocks() {
        promise = 18;
        SnapshotVolumes x = family();
        int[][] births = {{0, 0, 1}, {0, 1, 2}, {0, 2, NONE}, {1, 0, 4}, {1, 1, 2}, {16, 0, 4}, {16, 1, NONE}, {17, 2, 6}, {17, 11, NONE}};
        for (int[] birth : births) {
            due("blockAt(" + birth[0] + ", " + birth[1] + ")", x.blockAt(birth[0], birth[1]), birth[2]);
        }
        noVersion("blockAt", x, w -> x10.blockAt(w, 0));
        noAddress("blockAt", x, a -> x10.blockAt(0, a));

        promise = 19;
        due("oldest of t", x.birthIn(1, false), 2);
        due("newest of t", x.birthIn(1, true), 4);
        due("oldest of c", x.birthIn(17, false), 1);
        due("newest of c", x.birthIn(17, true), 6);
        x.newVolume();
        due("oldest of none", x.birthIn(18, false), NONE);
        due("newest of none", x.birthIn(18, true), NONE);
        noVersion("birthIn", x, w -> x10.birthIn(w, true));

        promise = 20;
        x = family();
        due("sameAt(0, 0)", x.sameAt(0, 0), 1 | 1 << 17);
        due("sameAt(1, 0)", x.sameAt(1, 0), 2 | 1 << 16);
        due("sameAt(17, 1)", x.sameAt(17, 1), 3 | 1 << 17);
        due("sameAt(16, 1)", x.sameAt(16, 1), 1 << 16);
        due("sameAt(0, 2)", x.sameAt(0, 2), 3 | 1 << 16);
        due("sameAt(0, 11)", x.sameAt(0, 11), 3 | 3 << 16);
        x.newVolume();
        due("sameAt(18, 0), three others", x.sameAt(18, 0), 1 << 18);
        due("sameAt(18, 1)", x.sameAt(18, 1), 5 << 16);
        noVersion("sameAt", x, w -> x10.sameAt(w, 0));
        noAddress("sameAt", x, a -> x10.sameAt(0, a));

        promise = 21;
        due("besideOrigin(0)", x.besideOrigin(0), 5 + 3 + 4);
        due("besideOrigin(1)", x.besideOrigin(1), 6);
        x.take(1);
        x.trim(1, 2);
        x.write(1, 0, 1);
        due("besideOrigin(1) with a snapshot", x.besideOrigin(1), 6 + 1);
        x.newVolume();
        x.write(2, 0, 2);
        due("besideOrigin(2)", x.besideOrigin(2), 2);
        noVolume("besideOrigin", x, v -> x10.besideOrigin(v));

        promise = 22;
        x = family();
        due("wouldFree(1, 2)", x.wouldFree(1, 2), 6);
        due("wouldFree(1, 0)", x.wouldFree(1, 0), 0);
        due("wouldFree(0, 0)", x.wouldFree(0, 0), 0);
        due("wouldFree(0, 5)", x.wouldFree(0, 5), 0);
        noVolume("wouldFree", x, v -> x10.wouldFree(v, 0));
        noAddress("wouldFree", x, a -> x10.wouldFree(0, a));

        promise = 23;
        int[] sizes = {NONE, 5, 3, NONE, 4, NONE, 6, NONE};
        for (int birth = 0; birth < sizes.length; birth++) {
            due("sizeOf(" + birth + ")", x.sizeOf(birth), sizes[birth]);
        }
        due("sizeOf(-1)", x.sizeOf(-1), NONE);
        due("sizeOf(MIN)", x.sizeOf(Integer.MIN_VALUE), NONE);
        x.trim(1, 2);
        due("sizeOf a free block", x.sizeOf(6), NONE);
        x.destroyVolume(1);
        x.destroy(0);
        due("sizeOf a free block", x.sizeOf(1), NONE);
        due("sizeOf those behind it", x.sizeOf(2) * 10 + x.sizeOf(4), 34);
        due("their place", x.blockAt(1, 1) * 10 + x.blockAt(1, 0), 24);

        promise = 24;
        x = family();
        x.trim(1, 2);
        int[] holders = {0, 1 | 1 << 17, 3 | 1 << 17, 0, 2 | 1 << 16, 0, 0, 0};
        for (int birth = 0; birth < holders.length; birth++) {
            due("holders(" + birth + ")", x.holders(birth), holders[birth]);
        }
        due("holders(-1)", x.holders(-1), 0);
        due("holders(MAX)", x.holders(Integer.MAX_VALUE), 0);
    }

    private static void space() {
        promise = 25;
        SnapshotVolumes x = family();
        due("used", x.used(), 18);
        x.setSetting(SnapshotVolumes.POOL, 10);
        due("used, more than POOL", x.used(), 18);
        x.trim(0, 0);
        due("used", x.used(), 18);
        x.trim(1, 2);
        due("used", x.used(), 12);

        promise = 26;
        x = family();
        int[][] units = {{0, 8}, {1, 7}, {16, 4}, {17, 14}};
        for (int[] unit : units) {
            due("referenced(" + unit[0] + ")", x.referenced(unit[0]), unit[1]);
        }
        noVersion("referenced", x, w -> x10.referenced(w));

        promise = 27;
        due("exclusive(0)", x.exclusive(0), 0);
        due("exclusive(16)", x.exclusive(16), 0);
        due("exclusive(17)", x.exclusive(17), 6);
        x.trim(0, 0);
        due("exclusive(1)", x.exclusive(1), 4);
        due("exclusive(16)", x.exclusive(16), 0);
        noVersion("exclusive", x, w -> x10.exclusive(w));

        promise = 28;
        x = family();
        int[][] shared = {{0, 1, 3}, {0, 17, 8}, {1, 16, 4}, {0, 16, 0}, {17, 17, 14}, {16, 17, 0}, {1, 17, 3}};
        for (int[] pair : shared) {
            due("shared(" + pair[0] + ", " + pair[1] + ")", x.shared(pair[0], pair[1]), pair[2]);
            due("shared(" + pair[1] + ", " + pair[0] + ")", x.shared(pair[1], pair[0]), pair[2]);
        }
        noVersion("shared", x, w -> x10.shared(w, 0));
        noVersion("shared", x, w -> x10.shared(0, w));

        promise = 29;
        int[][] unlike = {{0, 1, 1}, {0, 17, 4}, {1, 16, 2}, {16, 17, 7}, {16, 16, 0}};
        for (int[] pair : unlike) {
            due("unlike(" + pair[0] + ", " + pair[1] + ")", x.unlike(pair[0], pair[1]), pair[2]);
            due("unlike(" + pair[1] + ", " + pair[0] + ")", x.unlike(pair[1], pair[0]), pair[2]);
        }
        noVersion("unlike", x, w -> x10.unlike(w, 0));
        noVersion("unlike", x, w -> x10.unlike(0, w));

        promise = 30;
        due("writtenSince(0, 0)", x.writtenSince(0, 0), 4);
        due("writtenSince(0, 1)", x.writtenSince(0, 1), 0);
        due("writtenSince(1, 0)", x.writtenSince(1, 0), 6);
        due("writtenSince(1, 1)", x.writtenSince(1, 1), 6);
        SnapshotVolumes later = Pools.loaded("volume a;volume b;snap b s;write a 0 3;snap a t;write a 1 4;");
        due("writtenSince(0, 0), in t, too", later.writtenSince(0, 0), 7);
        due("writtenSince(0, 1)", later.writtenSince(0, 1), 4);
        noVolume("writtenSince", x, v -> x10.writtenSince(v, 0));
        noSnapshot("writtenSince", x, s -> x10.writtenSince(0, s));

        promise = 42;
        due("sharing", x.sharing(), 33.0 / 18.0);
        due("sharing of none", new SnapshotVolumes().sharing(), 0);
        due("sharing of one", Pools.loaded("volume a;write a 0 7;").sharing(), 1);
    }

    private static void deadBlocks() {
        promise = 31;
        SnapshotVolumes x = family();
        due("deadCount(0)", x.deadCount(0), 0);
        due("deadCount(1)", x.deadCount(1), 1);
        due("deadCount(16)", x.deadCount(16), 1);
        due("deadCount(17)", x.deadCount(17), 0);
        x.write(1, 0, 1);
        x.trim(1, 1);
        due("deadCount(17)", x.deadCount(17), 2);
        noVersion("deadCount", x, w -> x10.deadCount(w));

        promise = 32;
        due("deadBlock(17, 0)", x.deadBlock(17, 0), 1);
        due("deadBlock(17, 1)", x.deadBlock(17, 1), 2);
        due("deadBlock(17, 2)", x.deadBlock(17, 2), NONE);
        due("deadBlock(17, -1)", x.deadBlock(17, -1), NONE);
        due("deadBlock(0, 0)", x.deadBlock(0, 0), NONE);
        due("deadBlock(1, 0)", x.deadBlock(1, 0), 1);
        due("deadBlock(16, 0)", x.deadBlock(16, 0), 2);
        noVersion("deadBlock", x, w -> x10.deadBlock(w, 0));
        x = Pools.loaded("volume a;write a 5 1;write a 3 1;write a 4 1;snap a s;trim a 3;trim a 4;trim a 5;");
        due("by births: 0", x.deadBlock(16, 0), 1);
        due("by births: 1", x.deadBlock(16, 1), 2);
        due("by births: 2", x.deadBlock(16, 2), 3);

        promise = 33;
        x = family();
        due("byDeadBlocks(0)", x.byDeadBlocks(0), 5);
        due("byDeadBlocks(1)", x.byDeadBlocks(1), 0);
        x.trim(0, 0);
        due("byDeadBlocks(1)", x.byDeadBlocks(1), 4);
        // c: its first snapshot, with the blocks 1, 2 and 6, comes behind s.
        x.take(1);
        x.trim(1, 0);
        x.trim(1, 2);
        due("byDeadBlocks(2), behind an origin", x.byDeadBlocks(2), 6);
        noSnapshot("byDeadBlocks", x, s -> x10.byDeadBlocks(s));
    }

    private static void freeing() {
        promise = 34;
        SnapshotVolumes x = Pools.loaded("volume a;write a 0 5;write a 1 2;snap a s;write a 0 4;snap a t;trim a 0;trim a 1;hold s;");
        due("freedBy(0)", x.freedBy(0), 0);
        due("freedBy(1)", x.freedBy(1), 5);
        due("freedBy(2)", x.freedBy(2), 4);
        due("freedBy(3)", x.freedBy(3), 11);
        due("freedBy(4)", x.freedBy(4), NONE);
        due("freedBy(5)", x.freedBy(5), NONE);
        due("freedBy(a live state)", x.freedBy(1 << 16), NONE);
        due("freedBy(MIN)", x.freedBy(Integer.MIN_VALUE), NONE);

        promise = 35;
        x = family();
        due("freedByVolume(0)", x.freedByVolume(0), 4);
        due("freedByVolume(1)", x.freedByVolume(1), 6);
        noVolume("freedByVolume", x, v -> x10.freedByVolume(v));

        promise = 36;
        due("usedBySnapshots(0)", x.usedBySnapshots(0), 0);
        due("usedBySnapshots(1)", x.usedBySnapshots(1), 0);
        x.trim(0, 0);
        due("usedBySnapshots(0)", x.usedBySnapshots(0), 4);
        noVolume("usedBySnapshots", x, v -> x10.usedBySnapshots(v));

        promise = 37;
        x = family();
        due("whyKept(0)", x.whyKept(0), 1);
        due("whyKept(1)", x.whyKept(1), 2);
        x.hold(0, true);
        due("whyKept(0), held too", x.whyKept(0), 1);
        x.hold(1, false);
        due("whyKept(1)", x.whyKept(1), 0);
        x.destroyVolume(1);
        due("whyKept(0), held alone", x.whyKept(0), 2);
        noSnapshot("whyKept", x, s -> x10.whyKept(s));

        promise = 39;
        due("mostExclusive of none", new SnapshotVolumes().mostExclusive(), NONE);
        due("mostExclusive, none alone", Pools.loaded("volume a;write a 0 4;snap a s;").mostExclusive(), NONE);
        String row = "volume a;write a 0 3;snap a s;write a 0 4;snap a t;write a 0 ";
        due("mostExclusive", Pools.loaded(row + "4;snap a u;trim a 0;").mostExclusive(), 1);
        due("mostExclusive", Pools.loaded(row + "5;snap a u;trim a 0;").mostExclusive(), 2);
        due("mostExclusive, one unit", Pools.loaded("volume a;write a 0 1;snap a s;trim a 0;").mostExclusive(), 0);
        due("mostExclusive of none", Pools.loaded("volume a;write a 0 9;").mostExclusive(), NONE);
        due("mostExclusive, held", Pools.loaded(row + "4;hold t;").mostExclusive(), 1);
    }

    private static void fewest() {
        promise = 38;
        due("fewestToFree(0)", family().fewestToFree(0), BAD);
        due("fewestToFree(1000)", family().fewestToFree(1000), BAD);
        due("fewestToFree(-1)", family().fewestToFree(-1), BAD);
        due("fewestToFree(999)", family().fewestToFree(999), NONE);
        due("fewestToFree(1) of none", new SnapshotVolumes().fewestToFree(1), NONE);
        // Block 1 (9 units) is had by s and t alone; s, t and u have 1, 2 and 3 units by themselves.
        String text = "volume a;write a 0 9;write a 1 1;snap a s;write a 1 2;snap a t;trim a 0;write a 1 3;snap a u;trim a 1;";
        SnapshotVolumes x = Pools.loaded(text);
        due("fewestToFree(1)", x.fewestToFree(1), 4);
        due("fewestToFree(3)", x.fewestToFree(3), 4);
        due("fewestToFree(4)", x.fewestToFree(4), 3);
        due("fewestToFree(12)", x.fewestToFree(12), 3);
        due("fewestToFree(13)", x.fewestToFree(13), 7);
        due("fewestToFree(15)", x.fewestToFree(15), 7);
        due("fewestToFree(16)", x.fewestToFree(16), NONE);
        x.hold(0, true);
        due("fewestToFree(4), s held", x.fewestToFree(4), 6);
        due("fewestToFree(6), s held", x.fewestToFree(6), NONE);
        x.undo();
        x.clone(2);
        due("fewestToFree(1), u an origin", x.fewestToFree(1), 2);
        due("undoCount", x.undoCount(), 1);
        x = Pools.loaded("volume a;write a 0 4;snap a s;write a 0 4;snap a t;write a 0 4;snap a u;trim a 0;");
        due("the lowest of one", x.fewestToFree(4), 1);
        due("the lowest of two", x.fewestToFree(5), 3);
        x = Pools.loaded("volume a;volume b;write a 0 4;write b 0 4;snap a s;snap b t;write a 0 4;write b 0 4;snap a u;snap b v;"
            + "trim a 0;trim b 0;");
        due("the lowest over two volumes", x.fewestToFree(7), 3);
        due("the lowest over two volumes", x.fewestToFree(9), 7);
        due("all over two volumes", x.fewestToFree(16), 15);
        x = new SnapshotVolumes();
        x.newVolume();
        for (int s = 0; s < 16; s++) {
            x.write(0, s % 12, 9);
            x.take(0);
            x.trim(0, s % 12);
        }
        due("all that can ever come", x.fewestToFree(144), 0xffff);
        due("all but the highest", x.fewestToFree(130), 0x7fff);
        due("more than there is", x.fewestToFree(145), NONE);
    }

    private static void writing() {
        promise = 44;
        SnapshotVolumes x = new SnapshotVolumes();
        due("write without a volume", x.write(0, 12, 0), NONE);
        x.newVolume();
        due("write", x.write(0, 0, 1), 1);
        due("write", x.write(0, 11, 9), 2);
        for (int bad : new int[] {-1, 12, Integer.MAX_VALUE, Integer.MIN_VALUE}) {
            due("write at address " + bad, x.write(0, bad, 1), BAD);
        }
        for (int bad : new int[] {-1, 0, 10, Integer.MAX_VALUE, Integer.MIN_VALUE}) {
            due("write of size " + bad, x.write(0, 0, bad), BAD);
        }
        for (int bad : NO_INDEX) {
            due("write to volume " + bad, x.write(bad, 0, 1), NONE);
        }
        due("time", x.count(3), 2);
        due("undoCount", x.undoCount(), 3);
        x.setSetting(SnapshotVolumes.POOL, 10);
        x.setQuota(0, 9);
        due("FULL ahead of OVER", x.write(0, 1, 1), FULL);
        due("OVER", x.write(0, 0, 1), OVER);
        due("in place of the old one", x.write(0, 11, 8), 3);
        x.setQuota(0, 0);
        x.take(0);
        due("FULL, for the old one stays", x.write(0, 11, 2), FULL);
        due("up to POOL", x.write(0, 11, 1), 5);
        SnapshotVolumes other = family();
        other.setQuota(1, 15);
        due("a new one within the quota", other.write(1, 3, 1), 7);
        due("OVER by one", other.write(1, 4, 1), OVER);
        due("in place of one that another has", other.write(1, 0, 5), 8);
        due("OVER in place of one", other.write(1, 0, 6), OVER);
        due("in the other volume", other.write(0, 0, 6), 9);
        due("its block", other.blockAt(16, 0), 9);

        promise = 41;
        due("wouldWrite", x.wouldWrite(0, 11, 1), 6);
        due("wouldWrite again", x.wouldWrite(0, 11, 1), 6);
        due("wouldWrite FULL", x.wouldWrite(0, 11, 2), FULL);
        x.setSetting(SnapshotVolumes.POOL, 999);
        x.setQuota(0, 2);
        due("wouldWrite OVER", x.wouldWrite(0, 11, 2), OVER);
        due("wouldWrite BAD_VALUE", x.wouldWrite(0, 12, 2), BAD);
        due("wouldWrite BAD_VALUE", x.wouldWrite(0, 0, 10), BAD);
        due("wouldWrite NOT_FOUND", x.wouldWrite(1, 12, 10), NONE);
        due("time", x.count(3), 5);
        due("used", x.used(), 10);

        promise = 45;
        x = family();
        due("trim, another has it", x.trim(0, 0), 0);
        due("trim of nothing", x.trim(0, 0), NOT);
        due("trim", x.trim(1, 2), 6);
        due("time", x.count(3), 6);
        due("trim at -1", x.trim(0, -1), BAD);
        due("trim at 12", x.trim(0, 12), BAD);
        for (int bad : NO_INDEX) {
            due("trim of volume " + bad, x.trim(bad, 12), NONE);
        }
        due("undoCount", x.undoCount(), 2);
    }

    private static void volumesAndSnapshots() {
        promise = 43;
        SnapshotVolumes x = new SnapshotVolumes();
        for (int v = 0; v < 6; v++) {
            due("newVolume", x.newVolume(), v);
        }
        due("a seventh", x.newVolume(), FULL);
        due("its origin", x.volumeNumber(5, 0), NONE);
        due("its blocks", x.referenced(21), 0);
        x.destroyVolume(0);
        due("an index is not used again", x.newVolume(), FULL);
        due("time", x.count(3), 0);

        promise = 46;
        due("take of what was destroyed", x.take(0), NONE);
        x.write(1, 4, 7);
        for (int s = 0; s < 16; s++) {
            due("take", x.take(1), s);
        }
        due("a 17th", x.take(1), FULL);
        due("a 17th of no volume", x.take(6), NONE);
        due("its time", x.snapshotNumber(15, 1), 17);
        due("its place", x.snapshotNumber(15, 4), 15);
        due("its block", x.blockAt(15, 4), 1);
        due("depth", x.depthOf(17), 16);
        x.destroy(3);
        due("an index is not used again", x.take(1), FULL);
        for (int bad : NO_INDEX) {
            due("take of volume " + bad, x.take(bad), NONE);
        }

        promise = 47;
        due("clone, six volumes", x.clone(0), FULL);
        due("clone of none", x.clone(3), NONE);
        x = family();
        due("clone", x.clone(0), 2);
        due("clone", x.clone(0), 3);
        due("a fourth clone", x.clone(0), NOT);
        due("its origin", x.volumeNumber(3, 0), 0);
        due("its blocks", x.unlike(19, 0), 0);
        due("its quota", x.volumeNumber(3, 2), 0);
        due("time", x.count(3), 6);
        due("of another snapshot", x.clone(1), 4);
        x.setSetting(SnapshotVolumes.CLONES, 0);
        due("no clones", x.clone(1), NOT);
        x.setSetting(SnapshotVolumes.CLONES, 1);
        due("one clone, three there", x.clone(0), NOT);
        x.setSetting(SnapshotVolumes.CLONES, 5);
        due("the sixth volume", x.clone(0), 5);
        due("FULL ahead of NOT_ALLOWED", x.clone(0), FULL);
        for (int bad : NO_INDEX) {
            due("clone of snapshot " + bad, x.clone(bad), NONE);
        }
        due("clone of a live state", x.clone(16), NONE);
    }

    private static void promoting() {
        promise = 40;
        // s, t, u are snapshots of a; c is a clone of t, with a snapshot w; d is a clone of w.
        String text = "volume a;write a 0 1;snap a s;write a 1 2;snap a t;write a 2 3;snap a u;clone t c;write c 3 4;snap c w;clone w d;";
        SnapshotVolumes x = Pools.loaded(text);
        due("wouldMove(0)", x.wouldMove(0), 0);
        due("wouldMove(1)", x.wouldMove(1), 2);
        due("wouldMove(2)", x.wouldMove(2), 1);
        noVolume("wouldMove", x, v -> x10.wouldMove(v));

        promise = 48;
        due("promote(0)", x.promote(0), NOT);
        for (int bad : NO_INDEX) {
            due("promote(" + bad + ")", x.promote(bad), NONE);
        }
        due("promote(1)", x.promote(1), 2);
        due("origin of c", x.volumeNumber(1, 0), NONE);
        due("origin of a", x.volumeNumber(0, 0), 1);
        int[] row = {0, 1, 3};
        for (int k = 0; k < 3; k++) {
            due("snapshotAt(1, " + k + ")", x.snapshotAt(1, k), row[k]);
        }
        due("snapshotAt(0, 0)", x.snapshotAt(0, 0), 2);
        due("snapshots of a", x.volumeNumber(0, 1), 1);
        due("before(2)", x.before(2), 1);
        due("behind(1)", x.behind(1), 3);
        due("clonesOf(1)", x.clonesOf(1), 1);
        due("used", x.used(), 10);
        due("time", x.count(3), 8);
        due("promote(2)", x.promote(2), 3);
        due("origin of d", x.volumeNumber(2, 0), NONE);
        due("origin of c", x.volumeNumber(1, 0), 3);
        due("origin of a", x.volumeNumber(0, 0), 1);
        due("volume of t", x.snapshotNumber(1, 0), 2);
        due("promote(0)", x.promote(0), 2);
        due("origin of a", x.volumeNumber(0, 0), NONE);
        due("origin of d", x.volumeNumber(2, 0), 1);
        due("snapshots of d", x.volumeNumber(2, 1), 1);
        dueOut(x, 0, "a: s t u 1 3 5 - - - - - - - - -");
        due("undo", x.undo(), 2);
        due("undo", x.undo(), 1);
        due("undo", x.undo(), 0);
        due("origin of d again", x.volumeNumber(2, 0), 3);
        due("origin of c again", x.volumeNumber(1, 0), 1);
        // A promoted volume takes over the origin of the other one.
        due("promote(2) first", x.promote(2), 1);
        due("origin of d", x.volumeNumber(2, 0), 1);
        due("origin of c", x.volumeNumber(1, 0), 3);
        due("clonesOf(1)", x.clonesOf(1), 4);
    }

    private static void destroying() {
        promise = 49;
        String text = "volume a;write a 0 5;write a 1 2;snap a s;write a 0 4;snap a t;trim a 0;trim a 1;";
        SnapshotVolumes x = Pools.loaded(text);
        due("destroy(0)", x.destroy(0), 5);
        due("isThere(0)", x.isThere(0), false);
        due("before(1)", x.before(1), NONE);
        due("destroy(0) again", x.destroy(0), NONE);
        due("destroy(1)", x.destroy(1), 6);
        due("used", x.used(), 0);
        for (int bad : NO_INDEX) {
            due("destroy(" + bad + ")", x.destroy(bad), NONE);
        }
        x = family();
        due("destroy an origin", x.destroy(0), NOT);
        due("destroy a held one", x.destroy(1), NOT);
        due("destroy a live state", x.destroy(16), NONE);
        due("undoCount", x.undoCount(), 0);

        promise = 50;
        x = Pools.loaded(text);
        due("destroySet(0)", x.destroySet(0), BAD);
        due("destroySet(4)", x.destroySet(4), NONE);
        due("destroySet(7)", x.destroySet(7), NONE);
        due("destroySet(MIN)", x.destroySet(Integer.MIN_VALUE | 1), NONE);
        due("destroySet(a live state)", x.destroySet(1 << 16), NONE);
        due("destroySet(3)", x.destroySet(3), 11);
        due("snapshots", x.count(5), 0);
        due("snapshots that came", x.count(1), 2);
        due("one change", x.undo(), 0);
        due("snapshots", x.count(5), 2);
        x.hold(1, true);
        due("destroySet with a held one", x.destroySet(3), NOT);
        due("NOT_FOUND ahead of NOT_ALLOWED", x.destroySet(6), NONE);
        due("snapshots", x.count(5), 2);
        x = family();
        due("destroySet of an origin", x.destroySet(1), NOT);

        promise = 51;
        x = family();
        due("destroyVolume(0), with an origin", x.destroyVolume(0), NOT);
        due("destroyVolume(1)", x.destroyVolume(1), 6);
        due("destroyVolume(1) again", x.destroyVolume(1), NONE);
        due("clones of s", x.clonesOf(0), 0);
        due("destroyVolume(0), with a held one", x.destroyVolume(0), NOT);
        x.hold(1, false);
        due("destroyVolume(0)", x.destroyVolume(0), 12);
        due("versions", x.isThere(0) || x.isThere(1) || x.isThere(16) || x.isThere(17), false);
        due("name", x.named(true, Pools.letters("s")), NONE);
        for (int bad : NO_INDEX) {
            due("destroyVolume(" + bad + ")", x.destroyVolume(bad), NONE);
        }
        due("undo", x.undo(), 2);
        due("snapshots of a", x.volumeNumber(0, 1), 2);
        due("used", x.used(), 12);
        x.newVolume();
        due("destroyVolume without anything", x.destroyVolume(2), 0);
    }

    private static void rollingBack() {
        promise = 52;
        // s has 1; t has 2 (and 1); u has 4; then 6 is written and 1 is trimmed.
        String text = "volume a;write a 0 1;snap a s;write a 1 2;snap a t;write a 1 4;snap a u;write a 1 5;trim a 0;";
        SnapshotVolumes x = Pools.loaded(text);
        due("rollBack(2)", x.rollBack(2), 5);
        due("unlike(2, 16)", x.unlike(2, 16), 0);
        due("rollBack(2) again", x.rollBack(2), 0);
        due("a change all the same", x.undoCount(), 2);
        due("rollBack(0)", x.rollBack(0), 6);
        due("unlike(0, 16)", x.unlike(0, 16), 0);
        due("snapshots", x.volumeNumber(0, 1), 1);
        due("isThere(1)", x.isThere(1), false);
        due("time", x.count(3), 7);
        due("undo", x.undo(), 2);
        x.hold(1, true);
        due("rollBack(0), t held", x.rollBack(0), NOT);
        due("rollBack(1), t held", x.rollBack(1), 4);
        for (int bad : NO_INDEX) {
            due("rollBack(" + bad + ")", x.rollBack(bad), NONE);
        }
        due("rollBack of a live state", x.rollBack(16), NONE);
        x = Pools.loaded(text);
        x.clone(2);
        due("rollBack(1), u an origin", x.rollBack(1), NOT);
        due("rollBack(2), itself an origin", x.rollBack(2), 5);
        x = Pools.loaded("volume a;write a 0 1;snap a s;clone s b;write b 1 2;snap b t;write b 1 3;");
        due("rollBack of a clone", x.rollBack(1), 3);
        due("its live state", x.blockAt(17, 1) * 10 + x.blockAt(17, 0), 31);
        due("the other live state", x.blockAt(16, 0) * 10 + x.blockAt(16, 1), 10 + NONE);
        x = Pools.loaded("volume a;write a 0 9;snap a s;trim a 0;");
        x.setSetting(SnapshotVolumes.POOL, 1);
        x.setQuota(0, 1);
        due("rollBack over the limits", x.rollBack(0), 0);
        due("referenced", x.referenced(16), 9);
    }

    private static void holdsAndLimits() {
        promise = 53;
        SnapshotVolumes x = family();
        due("hold(0)", x.hold(0, true), 2);
        due("hold(0) again", x.hold(0, true), NOT);
        due("hold(1, false)", x.hold(1, false), 1);
        due("hold(1, false) again", x.hold(1, false), NOT);
        due("hold(0, false)", x.hold(0, false), 0);
        for (int bad : NO_INDEX) {
            due("hold(" + bad + ")", x.hold(bad, true), NONE);
        }
        due("hold of a live state", x.hold(16, true), NONE);

        promise = 54;
        due("setQuota", x.setQuota(0, 999), 0);
        due("setQuota", x.setQuota(0, 4), 999);
        due("setQuota(1000)", x.setQuota(0, 1000), BAD);
        due("setQuota(-1)", x.setQuota(0, -1), BAD);
        due("setQuota less than there is", x.setQuota(0, 1), 4);
        due("OVER", x.write(0, 0, 2), OVER);
        due("setQuota(0)", x.setQuota(0, 0), 1);
        due("no quota", x.write(0, 0, 2), 7);
        for (int bad : NO_INDEX) {
            due("setQuota of " + bad, x.setQuota(bad, -1), NONE);
        }

        promise = 55;
        due("POOL", x.setSetting(0, 999), 200);
        due("POOL", x.setSetting(0, 1), 999);
        due("POOL", x.setSetting(0, 0), BAD);
        due("POOL", x.setSetting(0, 1000), BAD);
        due("CLONES", x.setSetting(1, 0), 3);
        due("CLONES", x.setSetting(1, 5), 0);
        due("CLONES", x.setSetting(1, 6), BAD);
        due("CLONES", x.setSetting(1, -1), BAD);
        due("neither", x.setSetting(2, 1), BAD);
        due("neither", x.setSetting(-1, 1), BAD);
        due("POOL is kept", x.getSetting(0), 1);
        due("CLONES is kept", x.getSetting(1), 5);
    }

    private static void undoing() {
        promise = 56;
        SnapshotVolumes x = new SnapshotVolumes();
        due("undo of nothing", x.undo(), NONE);
        x.newVolume();
        x.write(0, 0, 3);
        x.take(0);
        x.clone(0);
        x.promote(1);
        x.hold(0, true);
        x.setQuota(1, 5);
        x.setSetting(SnapshotVolumes.CLONES, 2);
        due("undo setSetting", x.undo(), 7);
        due("CLONES", x.getSetting(SnapshotVolumes.CLONES), 3);
        due("undo setQuota", x.undo(), 6);
        due("quota", x.volumeNumber(1, 2), 0);
        due("undo hold", x.undo(), 5);
        due("held", x.snapshotNumber(0, 2), 0);
        due("undo promote", x.undo(), 4);
        due("origin", x.volumeNumber(1, 0), 0);
        due("undo clone", x.undo(), 3);
        due("volumes", x.count(0), 1);
        due("undo take", x.undo(), 2);
        due("snapshots", x.count(1), 0);
        due("time", x.count(3), 1);
        due("undo write", x.undo(), 1);
        due("blocks", x.count(2), 0);
        due("undo newVolume", x.undo(), 0);
        due("volumes", x.count(0), 0);
        due("undo of nothing", x.undo(), NONE);
        x.newVolume();
        for (int i = 1; i <= 20; i++) {
            x.write(0, i % 12, 1 + i % 9);
        }
        for (int i = 7; i >= 0; i--) {
            due("undo", x.undo(), i);
        }
        due("only the 8 latest", x.undo(), NONE);
        due("time", x.count(3), 12);
        due("the time again", x.write(0, 0, 9), 13);
        due("its size", x.sizeOf(13), 9);
        x = family();
        x.write(1, 2, 9);
        x.writeOut(1);
        x.undo();
        due("what was freed is back", x.sizeOf(6), 6);
        due("output stays", x.outputAt(0), 'c');
        due("the same birth for another size", x.write(1, 3, 2), 7);
        due("its size", x.sizeOf(7), 2);
        x = family();
        Pools.feed(x, "volume q;");
        x.newVolume();
        x.undo();
        due("input stays", x.load(9), 1);
        x = family();
        x.hold(1, false);
        x.destroySet(2);
        x.rollBack(0);
        x.destroyVolume(1);
        x.undo();
        due("undo destroyVolume", x.named(false, Pools.letters("c")), 1);
        x.undo();
        due("undo rollBack", x.blockAt(16, 0), 4);
        x.undo();
        due("undo destroySet", x.blockAt(1, 1), 2);
        due("its name", x.named(true, Pools.letters("t")), 1);
    }

    private static void output() {
        promise = 57;
        SnapshotVolumes x = family();
        dueOut(x, 0, "a: s t 4 - - - - - - - - - - -");
        dueOut(x, 1, "c: 1 2 6 - - - - - - - - -");
        due("writeOut(1)", x.writeOut(1), 26);
        due("undoCount", x.undoCount(), 0);
        x.newVolume();
        for (int i = 0; i < 4; i++) {
            x.write(2, 11, 1);
        }
        x.take(2);
        x.take(0);
        dueOut(x, 2, "*: * - - - - - - - - - - - 10");
        dueOut(x, 0, "a: s t * 4 - - - - - - - - - - -");
        x = Pools.loaded("volume abcdef;snap abcdef zzzzzz;");
        dueOut(x, 0, "abcdef: zzzzzz - - - - - - - - - - - -");
        noVolume("writeOut", x, v -> x10.writeOut(v));

        promise = 58;
        due("kept behind what was thrown", x.outputAt(0), 'a');
        due("outputAt(6)", x.outputAt(6), ':');
        due("outputAt(37)", x.outputAt(37), '-');
        due("outputAt(38)", x.outputAt(38), NONE);
        due("outputAt(-1)", x.outputAt(-1), NONE);
        due("outputAt(MAX)", x.outputAt(Integer.MAX_VALUE), NONE);
        due("outputAt(MIN)", x.outputAt(Integer.MIN_VALUE), NONE);
        due("of none", new SnapshotVolumes().outputAt(0), NONE);
    }
}
