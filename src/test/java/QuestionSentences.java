/** The sentences of the constructor and of the methods that ask. What the numbers are of in Pools.busy is told there. */
final class QuestionSentences extends Sentences {
    private static final String NO_SUCH_VOLUME = "Throws `IndexOutOfBoundsException` if there is no such volume";
    private static final String NO_SUCH_SNAPSHOT = "Throws `IndexOutOfBoundsException` if there is no such snapshot";
    private static final String NO_SUCH_VERSION = "Throws `IndexOutOfBoundsException` if there is no such version";
    private static final String NOT_THERE_OR_ADDRESS = "Throws `IndexOutOfBoundsException` if there is no such version or address";
    private static final String ANY_ADDRESS = "`address`: 0 to 11";
    private static final int[] VERSIONS = {0, 1, 2, 16, 17, 18, 20};
    private static final int[] NOT_0_TO_5 = outside(0, 5);

    private QuestionSentences() {
    }

    static void all() {
        newObject();
        count();
        named();
        undoCount();
        getSetting();
        isThere();
        volumeNumber();
        snapshotNumber();
        snapshotAt();
        clonesOf();
        before();
        behind();
        depthOf();
        common();
        blockAt();
        birthIn();
        sameAt();
        besideOrigin();
        wouldFree();
        sizeOf();
        holders();
        used();
        referenced();
        exclusive();
        shared();
        unlike();
        writtenSince();
        deadCount();
        deadBlock();
        byDeadBlocks();
        freedBy();
        freedByVolume();
        usedBySnapshots();
        whyKept();
        fewestToFree();
        fewestTies();
        mostExclusive();
        wouldMove();
        wouldWrite();
        sharing();
    }

    /** The versions of Pools.busy answer these, in the order of VERSIONS. */
    private static void ofVersions(String call, Asked asked, int... want) {
        SnapshotVolumes x = Pools.busy();
        for (int i = 0; i < VERSIONS.length; i++) {
            due(call + " of version " + VERSIONS[i], asked.of(x, VERSIONS[i]), want[i]);
        }
    }

    private static void newObject() {
        test(1, "Creates a pool without volumes, with initial settings, empty buffers and no changes to undo.", () -> {
            SnapshotVolumes x = new SnapshotVolumes();
            for (int what = 0; what <= 5; what++) {
                due("count(" + what + ")", x.count(what), 0);
            }
            due("POOL", x.getSetting(POOL), 200);
            due("CLONES", x.getSetting(CLONES), 3);
            due("load(1)", x.load(1), BAD);
            due("outputAt(0)", x.outputAt(0), NONE);
            due("undoCount", x.undoCount(), 0);
            due("undo", x.undo(), NONE);
            for (int version = 0; version < 22; version++) {
                due("isThere(" + version + ")", x.isThere(version), false);
            }
        });
        test(1, "Creates a pool without volumes", () -> {
            SnapshotVolumes used = Pools.full();
            due("another object", new SnapshotVolumes().count(0), 0);
            due("this one", used.count(0), 6);
        });
    }

    private static void count() {
        int[] busy = {5, 4, 5, 9, 4, 3};
        int[] full = {6, 16, 1, 17, 6, 16};
        String[] words = {"`what`: 0: volumes that ever came", "1: snapshots that ever came", "2: blocks that are there",
            "3: the time", "4: volumes that are there", "5: snapshots that are there"};
        for (int i = 0; i < 6; i++) {
            int what = i;
            test(5, words[what], () -> {
                due("of none", new SnapshotVolumes().count(what), 0);
                due("of some that are gone", Pools.busy().count(what), busy[what]);
                due("of all that can come", Pools.full().count(what), full[what]);
            });
        }
        test(5, "2: blocks that are there", () -> {
            SnapshotVolumes x = mostBlocks();
            due("12 in each of 22 versions", x.count(2), 264);
            due("used", x.used(), 264);
            due("sharing", x.sharing(), 1);
            for (int version = 0; version < 22; version++) {
                due("exclusive(" + version + ")", x.exclusive(version), 12);
                due("birthIn(" + version + ")", x.holders(x.birthIn(version, true)), 1 << version);
            }
            due("deadCount(16)", x.deadCount(16), 12);
            due("sameAt(21, 11)", x.sameAt(21, 11), 1 << 21);
            due("fewestToFree(192)", x.fewestToFree(192), 0xffff);
            due("write in place of one", x.write(5, 11, 1), 281);
            due("undo", x.undo(), 7);
            due("trim", x.trim(5, 11), 1);
            due("destroySet", x.destroySet(0xffff), 192);
            due("blocks", x.count(2), 71);
            due("undo", x.undo(), 7);
            due("undo", x.undo(), 6);
            due("blocks", x.count(2), 264);
            due("rollBack", x.rollBack(0), 192);
            due("sharing", x.sharing(), 84 / 72.0);
        });
        test(5, "BAD_VALUE for any other what.", () -> answersFor(NOT_0_TO_5, BAD, (x, what) -> x.count(what)));
    }

    /** Each version has 12 blocks of its own, so that there can be no more. */
    private static SnapshotVolumes mostBlocks() {
        SnapshotVolumes x = Pools.loaded("set pool 999;volume a;volume b;volume c;volume d;volume e;volume f;");
        for (int round = 0; round < 22; round++) {
            int volume = Math.max(0, round - 16);
            for (int address = 0; address < 12; address++) {
                x.write(volume, address, 1);
            }
            if (round < 16) {
                x.take(0);
            }
        }
        return x;
    }

    private static void named() {
        test(6, "the name as six groups of 5 bits, the first letter in the highest group", () -> {
            SnapshotVolumes x = Pools.loaded("volume abcdef;volume abcde;snap abcdef fedcba;");
            due("abcdef", x.named(false, ((((1 << 5 | 2) << 5 | 3) << 5 | 4) << 5 | 5) << 5 | 6), 0);
            due("abcde", x.named(false, ((((1 << 5 | 2) << 5 | 3) << 5 | 4) << 5 | 5) << 5), 1);
            due("fedcba", x.named(true, ((((6 << 5 | 5) << 5 | 4) << 5 | 3) << 5 | 2) << 5 | 1), 0);
            due("fedcba, a volume", x.named(false, Pools.letters("fedcba")), NONE);
        });
        test(6, "a is 1, z is 26", () -> {
            SnapshotVolumes x = Pools.loaded("volume a;volume z;volume zzzzzz;volume aaaaaa;");
            due("a", x.named(false, 1 << 25), 0);
            due("z", x.named(false, 26 << 25), 1);
            due("zzzzzz", x.named(false, Pools.letters("zzzzzz")), 2);
            due("aaaaaa", x.named(false, Pools.letters("aaaaaa")), 3);
            due("the group 0", x.named(false, 0), NONE);
            due("the group 27", x.named(false, 27 << 25), NONE);
        });
        test(6, "unused groups at the end are 0", () -> {
            SnapshotVolumes x = Pools.loaded("volume a;volume ab;");
            due("a", x.named(false, 1 << 25), 0);
            due("ab", x.named(false, 1 << 25 | 2 << 20), 1);
            due("a and a gap", x.named(false, 1 << 25 | 2 << 15), NONE);
            due("a at the low end", x.named(false, 1), NONE);
            due("a with the bit 30", x.named(false, 1 << 30 | 1 << 25), NONE);
            due("a with the bit 31", x.named(false, 1 << 31 | 1 << 25), NONE);
            due("all bits", x.named(false, -1), NONE);
        });
        test(6, "NOT_FOUND if there is none with that name (what was not told by a text has none).", () -> {
            SnapshotVolumes x = new SnapshotVolumes();
            due("of no volume", x.named(false, 1 << 25), NONE);
            x.newVolume();
            x.take(0);
            due("a volume without a name", x.named(false, 0), NONE);
            due("a snapshot without a name", x.named(true, 0), NONE);
            SnapshotVolumes y = Pools.busy();
            due("b", y.named(false, Pools.letters("b")), NONE);
            due("s, a volume", y.named(false, Pools.letters("s")), NONE);
            due("a, a snapshot", y.named(true, Pools.letters("a")), NONE);
            due("u", y.named(true, Pools.letters("u")), 2);
            y.destroy(2);
            due("u, which is gone", y.named(true, Pools.letters("u")), NONE);
            due("d", y.named(false, Pools.letters("d")), 2);
            y.destroyVolume(2);
            due("d, which is gone", y.named(false, Pools.letters("d")), NONE);
        });
    }

    private static void undoCount() {
        test(7, "Returns 0 to 8.", () -> {
            SnapshotVolumes x = new SnapshotVolumes();
            due("undoCount", x.undoCount(), 0);
            x.newVolume();
            for (int i = 2; i <= 20; i++) {
                x.setQuota(0, i);
                due("undoCount", x.undoCount(), Math.min(i, 8));
            }
            for (int i = 7; i >= 0; i--) {
                x.undo();
                due("undoCount", x.undoCount(), i);
            }
            x.undo();
            due("undoCount", x.undoCount(), 0);
        });
    }

    private static void getSetting() {
        test(8, "`setting`: POOL or CLONES", () -> {
            SnapshotVolumes x = Pools.loaded("set pool 999;set clones 0;");
            due("POOL", x.getSetting(0), 999);
            due("CLONES", x.getSetting(1), 0);
        });
        test(8, "BAD_VALUE if setting is neither.", () -> answersFor(outside(0, 1), BAD, (x, setting) -> x.getSetting(setting)));
    }

    private static void isThere() {
        test(9, "`version`: any number", () -> answersFor(NO_VERSION, 0, (x, version) -> x.isThere(version) ? 1 : 0));
        test(9, "Returns true if it is a version that is there.", () -> {
            ofVersions("isThere", (x, version) -> x.isThere(version) ? 1 : 0, 1, 1, 1, 1, 1, 1, 1);
            due("of none", new SnapshotVolumes().isThere(16), false);
            due("the last one", Pools.full().isThere(21), true);
        });
    }

    private static void volumeNumber() {
        SnapshotVolumes x = Pools.busy();
        test(10, "`what`: 0: its origin, NOT_FOUND if it has none", () -> {
            due("of a", x.volumeNumber(0, 0), NONE);
            due("of c", x.volumeNumber(1, 0), 0);
            due("of the last one", Pools.full().volumeNumber(5, 0), 0);
        });
        test(10, "1: the number of its snapshots", () -> {
            due("of a", x.volumeNumber(0, 1), 2);
            due("of d, without any", x.volumeNumber(2, 1), 0);
            due("of all", Pools.full().volumeNumber(0, 1), 16);
        });
        test(10, "2: its quota, 0 if it has none", () -> {
            due("of a", x.volumeNumber(0, 2), 5);
            due("of c", x.volumeNumber(1, 2), 0);
        });
        test(10, "BAD_VALUE for any other what.", () -> answersFor(outside(0, 2), BAD, (y, what) -> y.volumeNumber(0, what)));
        test(10, NO_SUCH_VOLUME + " (checked first)", () -> {
            throwsFor(NO_VOLUME, (y, volume) -> y.volumeNumber(volume, 0));
            throwsFor(NO_VOLUME, (y, volume) -> y.volumeNumber(volume, 3));
        });
    }

    private static void snapshotNumber() {
        SnapshotVolumes x = Pools.busy();
        test(11, "`what`: 0: its volume", () -> {
            due("of s", x.snapshotNumber(0, 0), 0);
            due("of u", x.snapshotNumber(2, 0), 1);
        });
        test(11, "1: its time", () -> {
            due("of s", x.snapshotNumber(0, 1), 3);
            due("of t", x.snapshotNumber(1, 1), 5);
            due("of u", x.snapshotNumber(2, 1), 7);
        });
        test(11, "2: 1 if it is held, otherwise 0", () -> {
            due("of s", x.snapshotNumber(0, 2), 0);
            due("of t", x.snapshotNumber(1, 2), 1);
        });
        test(11, "3: how many volumes have it as their origin", () -> {
            due("of s", x.snapshotNumber(0, 3), 2);
            due("of t, none", x.snapshotNumber(1, 3), 0);
            due("five", Pools.full().snapshotNumber(0, 3), 5);
            SnapshotVolumes y = Pools.busy();
            y.destroyVolume(4);
            due("of s, one is gone", y.snapshotNumber(0, 3), 1);
        });
        test(11, "4: its place in the order of its volume, from 0", () -> {
            due("of s", x.snapshotNumber(0, 4), 0);
            due("of t", x.snapshotNumber(1, 4), 1);
            due("of u", x.snapshotNumber(2, 4), 0);
            SnapshotVolumes y = Pools.full();
            due("the last one", y.snapshotNumber(15, 4), 15);
            y.destroy(7);
            due("the last one, one ahead is gone", y.snapshotNumber(15, 4), 14);
        });
        test(11, "BAD_VALUE for any other what.", () -> answersFor(outside(0, 4), BAD, (y, what) -> y.snapshotNumber(0, what)));
        test(11, NO_SUCH_SNAPSHOT + " (checked first)", () -> {
            throwsFor(NO_SNAPSHOT, (y, snapshot) -> y.snapshotNumber(snapshot, 0));
            throwsFor(NO_SNAPSHOT, (y, snapshot) -> y.snapshotNumber(snapshot, 5));
        });
    }

    private static void snapshotAt() {
        test(12, "`k`: 0 for the first one", () -> {
            SnapshotVolumes x = Pools.full();
            for (int k = 0; k < 16; k++) {
                due("snapshotAt(0, " + k + ")", x.snapshotAt(0, k), k);
            }
            x.destroy(7);
            due("behind a gap", x.snapshotAt(0, 7), 8);
            due("the last one behind a gap", x.snapshotAt(0, 14), 15);
            due("no more", x.snapshotAt(0, 15), NONE);
        });
        test(12, "NOT_FOUND if there is no such place.", () -> {
            answersFor(outside(0, 1), NONE, (x, k) -> x.snapshotAt(0, k));
            answersFor(join(outside(0, 15), 0, 1, 2), NONE, (x, k) -> x.snapshotAt(2, k));
            due("behind 16", Pools.full().snapshotAt(0, 16), NONE);
        });
        test(12, NO_SUCH_VOLUME, () -> {
            throwsFor(NO_VOLUME, (x, volume) -> x.snapshotAt(volume, 0));
            throwsFor(NO_VOLUME, (x, volume) -> x.snapshotAt(volume, -1));
        });
    }

    private static void clonesOf() {
        test(13, "Returns the volumes as a bit set: bit v is 1 for volume v.", () -> {
            SnapshotVolumes x = Pools.busy();
            due("of s", x.clonesOf(0), 1 << 1 | 1 << 4);
            due("of t, none", x.clonesOf(1), 0);
            x.destroyVolume(4);
            due("of s, one is gone", x.clonesOf(0), 1 << 1);
            due("up to the last one", Pools.full().clonesOf(0), 62);
            x.promote(1);
            due("the volume 0", x.clonesOf(0), 1);
        });
        test(13, NO_SUCH_SNAPSHOT, () -> throwsFor(NO_SNAPSHOT, (x, snapshot) -> x.clonesOf(snapshot)));
    }

    private static void before() {
        test(14, "Returns the version ahead of a version (see VERSIONS).",
            () -> ofVersions("before", (x, version) -> x.before(version), NONE, 0, 0, 1, 2, NONE, 0));
        test(14, "NOT_FOUND if there is none.", () -> {
            SnapshotVolumes x = Pools.loaded("volume a;volume b;snap b s;");
            due("a live state alone", x.before(16), NONE);
            due("a first snapshot", x.before(0), NONE);
            due("behind it", x.before(17), 0);
            x.destroy(0);
            due("a live state alone again", x.before(17), NONE);
        });
        test(14, NO_SUCH_VERSION, () -> throwsFor(NO_VERSION, (x, version) -> x.before(version)));
    }

    private static void behind() {
        test(15, "Returns the version behind a snapshot (see VERSIONS).", () -> {
            SnapshotVolumes x = Pools.busy();
            due("of s", x.behind(0), 1);
            due("of t, the last one", x.behind(1), 16);
            due("of u, the only one", x.behind(2), 17);
            x = Pools.full();
            due("of the last one", x.behind(15), 16);
            x.destroySet(0x7ffe);
            due("over those that are gone", x.behind(0), 15);
        });
        test(15, NO_SUCH_SNAPSHOT, () -> throwsFor(NO_SNAPSHOT, (x, snapshot) -> x.behind(snapshot)));
    }

    private static void depthOf() {
        test(16, "Returns how many versions lie ahead of a version: the one ahead of it, the one ahead of that, and so on.", () -> {
            ofVersions("depthOf", (x, version) -> x.depthOf(version), 0, 1, 1, 2, 2, 0, 1);
            SnapshotVolumes x = Pools.full();
            due("of the last snapshot", x.depthOf(15), 15);
            due("of its live state", x.depthOf(16), 16);
            due("of a clone of the first one", x.depthOf(21), 1);
            x = Pools.loaded("volume a;snap a s;clone s b;snap b t;clone t c;snap c u;clone u d;snap d v;clone v e;snap e w;"
                + "clone w f;");
            due("through five origins", x.depthOf(21), 5);
        });
        test(16, NO_SUCH_VERSION, () -> throwsFor(NO_VERSION, (x, version) -> x.depthOf(version)));
    }

    private static void common() {
        test(17, "of a version itself and all that lie ahead of it (see depthOf) the one with the greatest depth that is among "
            + "those of the other one, too.", () -> {
            int[][] commons = {{0, 0, 0}, {18, 18, 18}, {0, 1, 0}, {1, 2, 0}, {1, 16, 1}, {16, 17, 0}, {2, 17, 2}, {2, 20, 0},
                {0, 20, 0}, {16, 20, 0}};
            SnapshotVolumes x = Pools.busy();
            for (int[] row : commons) {
                due("common(" + row[0] + ", " + row[1] + ")", x.common(row[0], row[1]), row[2]);
                due("common(" + row[1] + ", " + row[0] + ")", x.common(row[1], row[0]), row[2]);
            }
            x.promote(1);
            due("behind promoting", x.common(16, 17), 0);
            due("behind promoting", x.common(2, 17), 2);
            x = Pools.full();
            due("of the last ones", x.common(15, 16), 15);
            due("of two clones", x.common(20, 21), 0);
            due("of the greatest version", x.common(21, 21), 21);
        });
        test(17, "NOT_FOUND if they have none in common.", () -> {
            SnapshotVolumes x = Pools.loaded("volume a;volume b;snap a s;snap b t;");
            due("common(16, 17)", x.common(16, 17), NONE);
            due("common(0, 1)", x.common(0, 1), NONE);
            due("common(0, 17)", x.common(0, 17), NONE);
            due("common(17, 17)", x.common(17, 17), 17);
        });
        test(17, NO_SUCH_VERSION, () -> {
            throwsFor(NO_VERSION, (x, version) -> x.common(version, 0));
            throwsFor(NO_VERSION, (x, version) -> x.common(0, version));
            throwsFor(NO_VERSION, (x, version) -> x.common(version, version));
        });
    }

    private static void blockAt() {
        test(18, ANY_ADDRESS, () -> {
            SnapshotVolumes x = Pools.loaded("volume a;write a 0 1;write a 11 1;");
            due("at 0", x.blockAt(16, 0), 1);
            due("at 11", x.blockAt(16, 11), 2);
        });
        test(18, "NOT_FOUND if there is none.", () -> {
            SnapshotVolumes x = Pools.busy();
            due("never written", x.blockAt(0, 11), NONE);
            due("trimmed", x.blockAt(16, 1), NONE);
            due("written behind the snapshot", x.blockAt(0, 2), NONE);
        });
        test(18, NOT_THERE_OR_ADDRESS, () -> {
            throwsFor(NO_VERSION, (x, version) -> x.blockAt(version, 0));
            throwsFor(NO_ADDRESS, (x, address) -> x.blockAt(0, address));
            throwsFor(NO_ADDRESS, (x, address) -> x.blockAt(3, address));
        });
    }

    private static void birthIn() {
        test(19, "`newest`: true for the newest one", () -> {
            ofVersions("birthIn, the oldest", (x, version) -> x.birthIn(version, false), 1, 2, 1, 4, 1, 8, 1);
            ofVersions("birthIn, the newest", (x, version) -> x.birthIn(version, true), 2, 4, 6, 4, 6, 8, 2);
        });
        test(19, "NOT_FOUND if the version has no blocks.", () -> {
            SnapshotVolumes x = Pools.loaded("volume a;snap a s;write a 0 1;trim a 0;");
            due("the oldest of a", x.birthIn(16, false), NONE);
            due("the newest of a", x.birthIn(16, true), NONE);
            due("the oldest of s", x.birthIn(0, false), NONE);
            due("the newest of s", x.birthIn(0, true), NONE);
        });
        test(19, NO_SUCH_VERSION, () -> {
            throwsFor(NO_VERSION, (x, version) -> x.birthIn(version, true));
            throwsFor(NO_VERSION, (x, version) -> x.birthIn(version, false));
        });
    }

    private static void sameAt() {
        test(20, "or none as it has none (itself included).", () -> {
            SnapshotVolumes x = Pools.busy();
            due("a and d have none", x.sameAt(16, 1), 1 << 16 | 1 << 18);
            due("d alone has one", x.sameAt(18, 11), 1 << 18);
            due("all others have none", x.sameAt(0, 11), 7 | 1 << 16 | 1 << 17 | 1 << 20);
            due("none has one", x.sameAt(0, 10), 7 | 1 << 16 | 1 << 17 | 1 << 18 | 1 << 20);
            x = Pools.loaded("volume a;write a 0 1;write a 1 1;snap a s;trim a 0;");
            due("alone without one", x.sameAt(16, 0), 1 << 16);
            due("write of the same size", x.write(0, 0, 1), 4);
            due("alone with one", x.sameAt(16, 0), 1 << 16);
            x = Pools.loaded("volume a;write a 0 1;write a 1 2;");
            x.trim(0, 0);
            x.take(0);
            x.trim(0, 1);
            due("alone without one, an older block is free", x.sameAt(16, 1), 1 << 16);
        });
        test(20, "Returns the versions as a bit set: bit w is 1 for the version w.", () -> {
            due("all, the same block", Pools.full().sameAt(21, 0), (1 << 22) - 1);
            due("all, none", Pools.full().sameAt(0, 11), (1 << 22) - 1);
            due("of s", Pools.busy().sameAt(0, 0), 1 | 4 | 1 << 17 | 1 << 20);
        });
        test(20, ANY_ADDRESS, () -> {
            SnapshotVolumes x = Pools.busy();
            due("at 0", x.sameAt(18, 0), 1 << 18);
            due("at 11", x.sameAt(18, 11), 1 << 18);
        });
        test(20, NOT_THERE_OR_ADDRESS, () -> {
            throwsFor(NO_VERSION, (x, version) -> x.sameAt(version, 0));
            throwsFor(NO_VERSION, (x, version) -> x.sameAt(version, 11));
            throwsFor(NO_ADDRESS, (x, address) -> x.sameAt(0, address));
        });
    }

    private static void besideOrigin() {
        test(21, "Returns the units of the blocks that any version of a volume has (a snapshot of it or its live state) and its "
            + "origin has not", () -> {
            SnapshotVolumes x = Pools.busy();
            due("of c", x.besideOrigin(1), 6);
            due("of a clone as it was made", x.besideOrigin(4), 0);
            x.trim(1, 2);
            due("of c, the snapshot alone has it", x.besideOrigin(1), 6);
            x.write(1, 3, 2);
            due("of c, and one that the live state alone has", x.besideOrigin(1), 8);
        });
        test(21, "without an origin, of all blocks that any version of it has.", () -> {
            SnapshotVolumes x = Pools.busy();
            due("of a", x.besideOrigin(0), 5 + 3 + 4);
            due("of d", x.besideOrigin(2), 9);
            due("of one without blocks", Pools.loaded("volume a;").besideOrigin(0), 0);
        });
        test(21, NO_SUCH_VOLUME, () -> throwsFor(NO_VOLUME, (x, volume) -> x.besideOrigin(volume)));
    }

    private static void wouldFree() {
        test(22, "those of the block that is there now, if no other version has it, otherwise 0.", () -> {
            SnapshotVolumes x = Pools.busy();
            due("alone", x.wouldFree(2, 11), 9);
            due("a snapshot has it", x.wouldFree(0, 0), 0);
            due("another live state has it", x.wouldFree(4, 0), 0);
            due("no block", x.wouldFree(2, 0), 0);
            due("trimmed", x.wouldFree(0, 1), 0);
        });
        test(22, ANY_ADDRESS, () -> {
            SnapshotVolumes x = Pools.loaded("volume a;write a 0 1;write a 11 2;");
            due("at 0", x.wouldFree(0, 0), 1);
            due("at 11", x.wouldFree(0, 11), 2);
        });
        test(22, "Throws `IndexOutOfBoundsException` if there is no such volume or address", () -> {
            throwsFor(NO_VOLUME, (x, volume) -> x.wouldFree(volume, 0));
            throwsFor(NO_ADDRESS, (x, address) -> x.wouldFree(0, address));
        });
    }

    private static void sizeOf() {
        test(23, "Returns the units, 1 to 9", () -> {
            SnapshotVolumes x = Pools.loaded("volume a;write a 0 1;write a 1 9;");
            due("the smallest", x.sizeOf(1), 1);
            due("the largest", x.sizeOf(2), 9);
        });
        test(23, "NOT_FOUND if no block that is there has this birth.", () -> {
            SnapshotVolumes x = Pools.busy();
            due("0", x.sizeOf(0), NONE);
            due("the time of a snapshot", x.sizeOf(3), NONE);
            due("what is to come", x.sizeOf(10), NONE);
            x.trim(2, 11);
            due("a free one", x.sizeOf(8), NONE);
            answersFor(join(outside(1, 8), 3, 5, 7), NONE, (y, birth) -> y.sizeOf(birth));
        });
    }

    private static void holders() {
        test(24, "Returns the versions as a bit set: bit w is 1 for the version w", () -> {
            SnapshotVolumes x = Pools.busy();
            due("of 1", x.holders(1), 1 | 4 | 1 << 17 | 1 << 20);
            due("of 4", x.holders(4), 2 | 1 << 16);
            due("of 8", x.holders(8), 1 << 18);
            due("all", Pools.full().holders(1), (1 << 22) - 1);
        });
        test(24, "0 if no block that is there has this birth.", () -> {
            answersFor(join(outside(1, 8), 3, 5, 7), 0, (x, birth) -> x.holders(birth));
            SnapshotVolumes x = Pools.busy();
            x.trim(2, 11);
            due("a free one", x.holders(8), 0);
        });
    }

    private static void used() {
        test(25, "Returns the units that all blocks have together which are there.", () -> {
            SnapshotVolumes x = Pools.full();
            due("one block in all versions", x.used(), 9);
            x.trim(0, 0);
            due("trimmed once", x.used(), 9);
            x = Pools.busy();
            x.trim(2, 11);
            due("without a free one", x.used(), 18);
        });
        test(25, "Returns the number of units, 0 to POOL (or more, if POOL was made less).", () -> {
            due("of none", new SnapshotVolumes().used(), 0);
            SnapshotVolumes x = Pools.busy();
            due("each block once", x.used(), 27);
            x.write(2, 0, 3);
            due("POOL", x.used(), x.getSetting(POOL));
            x.setSetting(POOL, 1);
            due("more than POOL", x.used(), 30);
        });
    }

    private static void referenced() {
        test(26, "Returns the units that all blocks of a version have together.", () -> {
            ofVersions("referenced", (x, version) -> x.referenced(version), 8, 7, 14, 4, 14, 9, 8);
            due("without blocks", Pools.loaded("volume a;").referenced(16), 0);
            SnapshotVolumes x = Pools.loaded("volume a;");
            for (int address = 0; address < 12; address++) {
                x.write(0, address, 9);
            }
            due("the most", x.referenced(16), 108);
        });
        test(26, NO_SUCH_VERSION, () -> throwsFor(NO_VERSION, (x, version) -> x.referenced(version)));
    }

    private static void exclusive() {
        test(27, "Returns the units of the blocks that a version alone holds (see SPACE).", () -> {
            ofVersions("exclusive", (x, version) -> x.exclusive(version), 0, 0, 0, 0, 0, 9, 0);
            SnapshotVolumes x = Pools.busy();
            x.trim(0, 0);
            due("the live state has it no more", x.exclusive(1), 4);
            x.destroy(2);
            due("the snapshot has it no more", x.exclusive(17), 6);
            due("without blocks", x.exclusive(16), 0);
        });
        test(27, NO_SUCH_VERSION, () -> throwsFor(NO_VERSION, (x, version) -> x.exclusive(version)));
    }

    private static void shared() {
        test(28, "Returns the units of the blocks that two versions both have.", () -> {
            int[][] rows = {{0, 1, 3}, {0, 2, 8}, {1, 16, 4}, {16, 17, 0}, {0, 18, 0}, {17, 20, 8}, {2, 17, 14}};
            SnapshotVolumes x = Pools.busy();
            for (int[] row : rows) {
                due("shared(" + row[0] + ", " + row[1] + ")", x.shared(row[0], row[1]), row[2]);
                due("shared(" + row[1] + ", " + row[0] + ")", x.shared(row[1], row[0]), row[2]);
            }
        });
        test(28, "`b`: a version, possibly the same",
            () -> ofVersions("shared with itself", (x, version) -> x.shared(version, version), 8, 7, 14, 4, 14, 9, 8));
        test(28, NO_SUCH_VERSION, () -> {
            throwsFor(NO_VERSION, (x, version) -> x.shared(version, 0));
            throwsFor(NO_VERSION, (x, version) -> x.shared(0, version));
            throwsFor(NO_VERSION, (x, version) -> x.shared(version, version));
        });
    }

    private static void unlike() {
        test(29, "Returns the addresses at which two versions have not the same block (or one has one and the other has none).", () -> {
            int[][] rows = {{0, 1, 1}, {0, 2, 4}, {1, 16, 2}, {16, 17, 7}, {0, 18, 1 << 11 | 3}, {17, 20, 4}, {2, 17, 0}};
            SnapshotVolumes x = Pools.busy();
            for (int[] row : rows) {
                due("unlike(" + row[0] + ", " + row[1] + ")", x.unlike(row[0], row[1]), row[2]);
                due("unlike(" + row[1] + ", " + row[0] + ")", x.unlike(row[1], row[0]), row[2]);
            }
            due("all", Pools.loaded("volume a;volume b;write a 0 1;write b 1 1;write a 2 1;write b 3 1;write a 4 1;write b 5 1;"
                + "write a 6 1;write b 7 1;write a 8 1;write b 9 1;write a 10 1;write b 11 1;").unlike(16, 17), 4095);
            due("two blocks of one size", Pools.loaded("volume a;volume b;write a 5 1;write b 5 1;").unlike(16, 17), 1 << 5);
        });
        test(29, "`b`: a version, possibly the same",
            () -> ofVersions("unlike itself", (x, version) -> x.unlike(version, version), 0, 0, 0, 0, 0, 0, 0));
        test(29, NO_SUCH_VERSION, () -> {
            throwsFor(NO_VERSION, (x, version) -> x.unlike(version, 0));
            throwsFor(NO_VERSION, (x, version) -> x.unlike(0, version));
            throwsFor(NO_VERSION, (x, version) -> x.unlike(version, version));
        });
    }

    private static void writtenSince() {
        test(30, "Returns the units of the blocks of a live state that were born later than a snapshot was taken.", () -> {
            SnapshotVolumes x = Pools.loaded("volume a;write a 0 1;write a 1 2;snap a s;write a 2 3;write a 3 4;");
            due("just ahead of it and just behind it", x.writtenSince(0, 0), 3 + 4);
            x.take(0);
            due("a snapshot has them, too", x.writtenSince(0, 0), 3 + 4);
            due("none", x.writtenSince(0, 1), 0);
            x.trim(0, 2);
            due("the live state has it no more", x.writtenSince(0, 0), 4);
        });
        test(30, "`snapshot`: index of a snapshot that is there, of any volume", () -> {
            SnapshotVolumes x = Pools.busy();
            due("a clone, by its origin", x.writtenSince(1, 0), 6);
            due("a clone, by a later one of another volume", x.writtenSince(1, 1), 6);
            due("a volume of its own", x.writtenSince(2, 0), 9);
            due("all are older", x.writtenSince(0, 2), 0);
        });
        test(30, "Throws `IndexOutOfBoundsException` if there is no such volume or snapshot", () -> {
            throwsFor(NO_VOLUME, (x, volume) -> x.writtenSince(volume, 0));
            throwsFor(NO_SNAPSHOT, (x, snapshot) -> x.writtenSince(0, snapshot));
            throwsFor(NO_VOLUME, (x, volume) -> x.writtenSince(volume, 3));
        });
    }

    private static void deadCount() {
        test(31, "Returns the number of dead blocks of a version (see SPACE).", () -> {
            ofVersions("deadCount", (x, version) -> x.deadCount(version), 0, 1, 0, 1, 0, 0, 0);
            SnapshotVolumes x = new SnapshotVolumes();
            x.newVolume();
            for (int address = 0; address < 12; address++) {
                x.write(0, address, 1);
            }
            x.take(0);
            due("none", x.deadCount(16), 0);
            for (int address = 0; address < 12; address++) {
                x.trim(0, address);
            }
            due("the most", x.deadCount(16), 12);
        });
        test(31, NO_SUCH_VERSION, () -> throwsFor(NO_VERSION, (x, version) -> x.deadCount(version)));
    }

    private static void deadBlock() {
        test(32, "`k`: 0 for the one that was born first, then in the order of births", () -> {
            SnapshotVolumes x = Pools.loaded("volume a;write a 9 1;write a 5 1;write a 7 1;write a 5 1;snap a s;trim a 9;trim a 5;");
            due("the first one", x.deadBlock(16, 0), 1);
            due("the next one", x.deadBlock(16, 1), 4);
            due("the one that lives is none", x.deadBlock(16, 2), NONE);
            x.trim(0, 7);
            due("the one in between", x.deadBlock(16, 1), 3);
            due("the last one", x.deadBlock(16, 2), 4);
        });
        test(32, "NOT_FOUND if there is no such one.", () -> {
            answersFor(outside(0, 0), NONE, (x, k) -> x.deadBlock(1, k));
            answersFor(join(outside(0, 0), 0), NONE, (x, k) -> x.deadBlock(2, k));
            due("without a version ahead", Pools.busy().deadBlock(18, 0), NONE);
            due("the first one", Pools.busy().deadBlock(1, 0), 1);
            SnapshotVolumes x = Pools.loaded("volume a;write a 0 1;write a 1 1;snap a s;trim a 0;snap a t;trim a 1;");
            x.destroy(0);
            due("an older block is free: the first one", x.deadBlock(16, 0), 2);
            due("an older block is free: no other one", x.deadBlock(16, 1), NONE);
        });
        test(32, NO_SUCH_VERSION, () -> {
            throwsFor(NO_VERSION, (x, version) -> x.deadBlock(version, 0));
            throwsFor(NO_VERSION, (x, version) -> x.deadBlock(version, -1));
        });
    }

    private static void byDeadBlocks() {
        String text = "volume a;write a 0 1;write a 1 2;snap a s;write a 1 3;write a 2 4;snap a t;trim a 0;trim a 1;trim a 2;";
        test(33, "Returns the units of those dead blocks of the version behind a snapshot that were born later than the version "
            + "ahead of the snapshot was taken", () -> {
            SnapshotVolumes x = Pools.loaded(text);
            due("of t: not the one that s has", x.byDeadBlocks(1), 3 + 4);
            x = Pools.loaded("volume a;write a 0 1;snap a s;clone s b;write b 1 2;snap b t;trim b 0;trim b 1;");
            due("behind an origin", x.byDeadBlocks(1), 2);
            due("of s, which a follows", x.byDeadBlocks(0), 0);
        });
        test(33, "(of all of them, if there is none ahead)", () -> {
            SnapshotVolumes x = Pools.loaded(text);
            due("of s", x.byDeadBlocks(0), 2);
            x.destroy(0);
            due("of t, which is now the first one", x.byDeadBlocks(1), 1 + 3 + 4);
            due("none", Pools.loaded("volume a;snap a s;").byDeadBlocks(0), 0);
        });
        test(33, NO_SUCH_SNAPSHOT, () -> throwsFor(NO_SNAPSHOT, (x, snapshot) -> x.byDeadBlocks(snapshot)));
    }

    private static void freedBy() {
        test(34, "Returns the units that destroying some snapshots would free, whether that is possible or not.", () -> {
            SnapshotVolumes x = Pools.loaded("volume a;write a 0 5;snap a s;trim a 0;write a 1 3;snap a t;trim a 1;hold s;");
            due("a held one", x.freedBy(1), 5);
            due("both", x.freedBy(3), 8);
            x = Pools.loaded("volume a;write a 0 5;snap a s;clone s b;trim a 0;trim b 0;");
            due("an origin", x.freedBy(1), 5);
            due("it is not done", x.isThere(0), true);
        });
        test(34, "`set`: the snapshots as a bit set: bit s is 1 for snapshot s", () -> {
            SnapshotVolumes x = Pools.full();
            due("none", x.freedBy(0), 0);
            due("all", x.freedBy(0xffff), 0);
            x = Pools.loaded("volume a;write a 0 9;snap a a;trim a 0;snap a b;snap a c;snap a d;snap a e;snap a f;snap a g;snap a h;"
                + "snap a i;snap a j;snap a k;snap a l;snap a m;snap a n;snap a o;write a 1 4;snap a p;trim a 1;");
            due("the first one", x.freedBy(1), 9);
            due("the last one", x.freedBy(1 << 15), 4);
            due("all", x.freedBy(0xffff), 13);
        });
        test(34, "NOT_FOUND if the set has a bit of a snapshot that is not there.", () -> {
            SnapshotVolumes x = Pools.busy();
            for (int bit = 3; bit < 32; bit++) {
                due("the bit " + bit, x.freedBy(1 << bit), NONE);
                due("the bit " + bit + " and those that are there", x.freedBy(1 << bit | 7), NONE);
            }
            due("all bits", x.freedBy(-1), NONE);
            due("those that are there", x.freedBy(7), 0);
            for (int bit = 16; bit < 32; bit++) {
                due("the bit " + bit, Pools.full().freedBy(1 << bit), NONE);
            }
        });
    }

    private static void freedByVolume() {
        test(35, "Returns the units that destroying a volume with all its snapshots would free, whether that is possible or not.", () -> {
            SnapshotVolumes x = Pools.busy();
            due("of a, which is an origin and held", x.freedByVolume(0), 4);
            due("of c", x.freedByVolume(1), 6);
            due("of d, without snapshots", x.freedByVolume(2), 9);
            due("of a clone as it was made", x.freedByVolume(4), 0);
            due("of one without blocks", Pools.loaded("volume a;").freedByVolume(0), 0);
            due("it is not done", x.isThere(17), true);
        });
        test(35, NO_SUCH_VOLUME, () -> throwsFor(NO_VOLUME, (x, volume) -> x.freedByVolume(volume)));
    }

    private static void usedBySnapshots() {
        test(36, "Returns the units that destroying all snapshots of a volume, but not the volume, would free, whether that is "
            + "possible or not.", () -> {
            SnapshotVolumes x = Pools.busy();
            due("of a, whose live state has it", x.usedBySnapshots(0), 0);
            x.trim(0, 0);
            due("of a, held", x.usedBySnapshots(0), 4);
            due("of d, without snapshots", x.usedBySnapshots(2), 0);
            x = Pools.loaded("volume a;write a 0 5;write a 1 2;snap a s;snap a t;clone s b;trim a 0;trim b 0;");
            due("an origin, and by two together", x.usedBySnapshots(0), 5);
            due("of b", x.usedBySnapshots(1), 0);
        });
        test(36, NO_SUCH_VOLUME, () -> throwsFor(NO_VOLUME, (x, volume) -> x.usedBySnapshots(volume)));
    }

    private static void whyKept() {
        test(37, "Returns 1: it is the origin of a volume", () -> {
            SnapshotVolumes x = Pools.busy();
            due("of s", x.whyKept(0), 1);
            x.hold(0, true);
            due("of s, held, too", x.whyKept(0), 1);
            x.destroyVolume(4);
            due("one clone left", x.whyKept(0), 1);
            x.destroyVolume(1);
            due("no clone left", x.whyKept(0), 2);
        });
        test(37, "Tells why a snapshot cannot be destroyed: the first of these reasons that applies.", () -> {
            SnapshotVolumes x = Pools.busy();
            x.clone(1);
            due("of t, an origin and held", x.whyKept(1), 1);
            x.undo();
            due("of t, held alone", x.whyKept(1), 2);
        });
        test(37, "2: it is held", () -> due("of t", Pools.busy().whyKept(1), 2));
        test(37, "0: it can be destroyed.", () -> {
            SnapshotVolumes x = Pools.busy();
            due("of u", x.whyKept(2), 0);
            x.hold(1, false);
            due("of t", x.whyKept(1), 0);
            due("destroy", x.destroy(1), 0);
        });
        test(37, NO_SUCH_SNAPSHOT, () -> throwsFor(NO_SNAPSHOT, (x, snapshot) -> x.whyKept(snapshot)));
    }

    private static void fewestToFree() {
        String text = "volume a;write a 0 9;write a 1 1;snap a s;write a 1 2;snap a t;trim a 0;write a 1 3;snap a u;trim a 1;";
        test(38, "Returns the fewest snapshots that can be destroyed, each by itself as it is now, and all together would free at "
            + "least some units.", () -> {
            SnapshotVolumes x = Pools.loaded(text);
            due("just what one frees", x.fewestToFree(3), 4);
            due("one unit more", x.fewestToFree(4), 3);
            due("just what two free", x.fewestToFree(12), 3);
            due("one unit more", x.fewestToFree(13), 7);
            due("just what all free", x.fewestToFree(15), 7);
            x.hold(2, true);
            due("a held one is none", x.fewestToFree(1), 2);
            x.clone(1);
            due("an origin is none", x.fewestToFree(1), 1);
            due("an origin is none", x.fewestToFree(2), NONE);
        });
        test(38, "each by itself as it is now", () -> {
            // Block 1 is in s alone.
            SnapshotVolumes x = Pools.loaded("volume a;write a 0 9;snap a s;clone s c;trim c 0;trim a 0;snap c t;");
            due("s is an origin", x.fewestToFree(1), NONE);
            x.destroyVolume(1);
            due("s is an origin no more", x.fewestToFree(9), 1);
        });
        test(38, "`units`: 1 to 999", () -> {
            SnapshotVolumes x = Pools.loaded(text);
            due("1", x.fewestToFree(1), 4);
            due("999", x.fewestToFree(999), NONE);
        });
        test(38, "NOT_FOUND if there is no such set", () -> {
            due("one unit more than all free", Pools.loaded(text).fewestToFree(16), NONE);
            due("without snapshots", Pools.loaded("volume a;write a 0 9;").fewestToFree(1), NONE);
            due("of none", new SnapshotVolumes().fewestToFree(1), NONE);
            due("none frees any", Pools.loaded("volume a;write a 0 9;snap a s;").fewestToFree(1), NONE);
        });
        test(38, "BAD_VALUE if units is out of range.", () -> answersFor(outside(1, 999), BAD, (x, units) -> x.fewestToFree(units)));
    }

    private static void fewestTies() {
        test(38, "Of several sets with as few snapshots the one that frees the most units, then the lowest bit set.", () -> {
            String text = "volume a;write a 0 4;snap a s;write a 0 5;snap a t;write a 0 5;snap a u;write a 0 4;snap a v;trim a 0;";
            SnapshotVolumes x = Pools.loaded(text);
            due("the most units, then the lowest", x.fewestToFree(1), 2);
            due("of two", x.fewestToFree(6), 6);
            due("of three, the lowest", x.fewestToFree(11), 7);
            due("all", x.fewestToFree(15), 15);
            x.hold(1, true);
            due("without t", x.fewestToFree(9), 1 | 4);
        });
        test(38, "then the lowest bit set.", () -> {
            SnapshotVolumes x = new SnapshotVolumes();
            x.newVolume();
            for (int s = 0; s < 16; s++) {
                x.write(0, s % 12, 9);
                x.take(0);
                x.trim(0, s % 12);
            }
            for (int number = 1; number <= 16; number++) {
                due(number + " snapshots", x.fewestToFree(9 * number), (1 << number) - 1);
                due(number + " snapshots", x.fewestToFree(9 * number - 8), (1 << number) - 1);
            }
            due("more than all", x.fewestToFree(145), NONE);
            x.hold(0, true);
            due("without the first one", x.fewestToFree(135), 0xfffe);
        });
    }

    private static void mostExclusive() {
        String text = "volume a;write a 0 3;snap a s;write a 0 4;snap a t;write a 0 4;snap a u;trim a 0;";
        test(39, "Returns the snapshot that alone holds the most units (see SPACE).", () -> {
            due("t", Pools.loaded(text).mostExclusive(), 1);
            due("the last one", Pools.loaded(text + "write a 1 5;snap a v;trim a 1;").mostExclusive(), 3);
            due("one unit", Pools.loaded("volume a;write a 0 1;snap a s;trim a 0;").mostExclusive(), 0);
            due("a held one", Pools.loaded(text + "hold t;").mostExclusive(), 1);
            due("an origin", Pools.loaded("volume a;write a 0 9;snap a s;clone s b;trim b 0;trim a 0;").mostExclusive(), 0);
        });
        test(39, "Ties are broken by lower index.", () -> {
            SnapshotVolumes x = Pools.loaded(text);
            due("t and u", x.mostExclusive(), 1);
            x.destroy(1);
            due("u", x.mostExclusive(), 2);
        });
        test(39, "NOT_FOUND if none holds any alone.", () -> {
            due("of none", new SnapshotVolumes().mostExclusive(), NONE);
            due("without snapshots", Pools.loaded("volume a;write a 0 9;").mostExclusive(), NONE);
            due("without blocks", Pools.loaded("volume a;snap a s;").mostExclusive(), NONE);
            due("the live state has it", Pools.loaded("volume a;write a 0 9;snap a s;").mostExclusive(), NONE);
        });
    }

    private static void wouldMove() {
        test(40, "Returns the number of snapshots, 0 if the volume has no origin.", () -> {
            SnapshotVolumes x = Pools.busy();
            due("of a", x.wouldMove(0), 0);
            due("of d", x.wouldMove(2), 0);
            due("of c, whose origin is the first one", x.wouldMove(1), 1);
            x = Pools.loaded("volume a;snap a s;snap a t;snap a u;clone u b;");
            due("of b, whose origin is the last one", x.wouldMove(1), 3);
            x.destroy(0);
            due("of b, one is gone", x.wouldMove(1), 2);
            due("promote", x.promote(1), 2);
            due("of b, promoted", x.wouldMove(1), 0);
        });
        test(40, NO_SUCH_VOLUME, () -> throwsFor(NO_VOLUME, (x, volume) -> x.wouldMove(volume)));
    }

    private static void wouldWrite() {
        test(41, "Tells what a write would return (see write). Nothing changes.", () -> {
            int[][] rows = {{2, 0, 3, 10}, {2, 0, 4, FULL}, {0, 1, 2, OVER}, {0, 0, 3, 10}, {3, 0, 1, NONE}, {5, 12, 10, NONE},
                {0, 12, 1, BAD}, {0, 0, 0, BAD}, {2, 11, 9, 10}, {0, 1, 9, FULL}};
            for (int[] row : rows) {
                String call = "(" + row[0] + ", " + row[1] + ", " + row[2] + ")";
                due("wouldWrite" + call, Pools.busy().wouldWrite(row[0], row[1], row[2]), row[3]);
                due("write" + call, Pools.busy().write(row[0], row[1], row[2]), row[3]);
                unchanged("wouldWrite" + call, Pools::busy, x -> x.wouldWrite(row[0], row[1], row[2]));
            }
        });
        test(41, "`volume`: index of a volume that is there", () -> answersFor(NO_VOLUME, NONE, (x, volume) -> x.wouldWrite(volume, 0, 1)));
        test(41, ANY_ADDRESS, () -> {
            due("0", Pools.busy().wouldWrite(2, 0, 1), 10);
            due("11", Pools.busy().wouldWrite(2, 11, 1), 10);
            answersFor(NO_ADDRESS, BAD, (x, address) -> x.wouldWrite(2, address, 1));
        });
        test(41, "`size`: 1 to 9", () -> {
            due("1", Pools.busy().wouldWrite(2, 11, 1), 10);
            due("9", Pools.busy().wouldWrite(2, 11, 9), 10);
            answersFor(outside(1, 9), BAD, (x, size) -> x.wouldWrite(2, 11, size));
        });
    }

    private static void sharing() {
        test(42, "the units that all versions have, each counted by itself, divided by the units of all blocks that are there, both "
            + "converted to double.", () -> {
            due("of busy", Pools.busy().sharing(), (8 + 7 + 14 + 4 + 14 + 9 + 8) / 27.0);
            due("of one", Pools.loaded("volume a;write a 0 7;").sharing(), 1);
            due("of all", Pools.full().sharing(), 22);
            due("a third", Pools.loaded("volume a;write a 0 1;write a 1 2;snap a s;trim a 1;").sharing(), 4 / 3.0);
        });
        test(42, "0 without blocks.", () -> {
            due("of none", new SnapshotVolumes().sharing(), 0);
            due("of versions without blocks", Pools.loaded("volume a;snap a s;").sharing(), 0);
            SnapshotVolumes x = Pools.loaded("volume a;write a 0 1;");
            x.trim(0, 0);
            due("of one that is free", x.sharing(), 0);
        });
    }
}
