import java.util.LinkedHashMap;
import java.util.Map;

/** The sentences of the description but those of the text format: versions, writing, promoting, destroying, space, changes. */
final class VersionSentences extends Sentences {
    // Each of the 13 methods that make changes, with a call that is possible in Pools.busy.
    private static final Map<String, Calls> CHANGES = new LinkedHashMap<>();

    static {
        CHANGES.put("newVolume", x -> due("newVolume", x.newVolume(), 5));
        CHANGES.put("write", x -> due("write", x.write(2, 0, 3), 10));
        CHANGES.put("trim", x -> due("trim", x.trim(2, 11), 9));
        CHANGES.put("take", x -> due("take", x.take(1), 4));
        CHANGES.put("clone", x -> due("clone", x.clone(2), 5));
        CHANGES.put("promote", x -> due("promote", x.promote(1), 1));
        CHANGES.put("destroy", x -> due("destroy", x.destroy(2), 0));
        CHANGES.put("destroySet", x -> due("destroySet", x.destroySet(4), 0));
        CHANGES.put("destroyVolume", x -> due("destroyVolume", x.destroyVolume(1), 6));
        CHANGES.put("rollBack", x -> due("rollBack", x.rollBack(1), 0));
        CHANGES.put("hold", x -> due("hold", x.hold(1, false), 0));
        CHANGES.put("setQuota", x -> due("setQuota", x.setQuota(0, 999), 5));
        CHANGES.put("setSetting", x -> due("setSetting", x.setSetting(POOL, 999), 30));
    }

    private VersionSentences() {
    }

    static void all() {
        howManyThereAre();
        whatAVersionIs();
        theTime();
        blocksAndOrigins();
        orderOfVersions();
        settings();
        writing();
        pool();
        quota();
        promoting();
        origins();
        destroying();
        space();
        changes();
        undone();
        refused();
        refusedWhenFull();
        constants();
    }

    private static void howManyThereAre() {
        test(0, "There are at most 6 volumes and 16 snapshots, indexed from 0 in the order in which they come", () -> {
            SnapshotVolumes x = new SnapshotVolumes();
            due("newVolume", x.newVolume(), 0);
            due("take", x.take(0), 0);
            due("clone", x.clone(0), 1);
            due("newVolume", x.newVolume(), 2);
            due("clone", x.clone(0), 3);
            due("newVolume", x.newVolume(), 4);
            due("clone", x.clone(0), 5);
            due("a seventh volume", x.newVolume(), FULL);
            due("a seventh volume, a clone", x.clone(0), FULL);
            for (int s = 1; s < 16; s++) {
                due("take", x.take(s % 6), s);
            }
            due("a 17th snapshot", x.take(5), FULL);
            due("volumes", x.count(0), 6);
            due("snapshots", x.count(1), 16);
        });
        test(0, "an index is not used again, so these are all that ever come", () -> {
            SnapshotVolumes x = new SnapshotVolumes();
            x.newVolume();
            due("take", x.take(0), 0);
            x.destroy(0);
            due("take behind a destroyed one", x.take(0), 1);
            x.destroyVolume(0);
            due("newVolume behind a destroyed one", x.newVolume(), 1);
            due("isThere(16)", x.isThere(16), false);
            x = Pools.full();
            x.destroyVolume(5);
            x.destroy(15);
            due("newVolume, five there", x.newVolume(), FULL);
            due("clone, five there", x.clone(1), FULL);
            due("take, 15 there", x.take(0), FULL);
        });
        test(0, "What was destroyed is not there any more.", () -> {
            SnapshotVolumes x = Pools.loaded("volume a;write a 0 5;snap a s;trim a 0;volume b;");
            due("destroyVolume", x.destroyVolume(0), 5);
            due("isThere(0)", x.isThere(0), false);
            due("isThere(16)", x.isThere(16), false);
            due("volumes", x.count(4), 1);
            due("snapshots", x.count(5), 0);
            due("the block", x.sizeOf(1), NONE);
            due("the name of the volume", x.named(false, Pools.letters("a")), NONE);
            due("the name of the snapshot", x.named(true, Pools.letters("s")), NONE);
            due("write", x.write(0, 0, 1), NONE);
            due("clone", x.clone(0), NONE);
            thrown("blockAt of the live state", () -> x.blockAt(16, 0));
            thrown("blockAt of the snapshot", () -> x.blockAt(0, 0));
            due("the other volume", x.isThere(17), true);
        });
    }

    private static void whatAVersionIs() {
        test(0, "A snapshot is a version, told by its index 0 to 15", () -> {
            SnapshotVolumes x = Pools.full();
            for (int s = 0; s < 16; s++) {
                due("isThere(" + s + ")", x.isThere(s), true);
                due("blockAt(" + s + ", 0)", x.blockAt(s, 0), 1);
            }
            due("isThere(-1)", x.isThere(-1), false);
            thrown("blockAt(-1, 0)", () -> x.blockAt(-1, 0));
        });
        test(0, "the live state of the volume v is a version, too, told as 16 + v.", () -> {
            SnapshotVolumes x = Pools.full();
            for (int v = 0; v < 6; v++) {
                due("isThere(16 + " + v + ")", x.isThere(16 + v), true);
                due("write", x.write(v, 11, 1), 18 + v);
                due("blockAt(16 + " + v + ", 11)", x.blockAt(16 + v, 11), 18 + v);
            }
            due("isThere(22)", x.isThere(22), false);
            thrown("blockAt(22, 0)", () -> x.blockAt(22, 0));
        });
        test(0, "A version has 12 addresses, 0 to 11", () -> {
            SnapshotVolumes x = new SnapshotVolumes();
            x.newVolume();
            for (int address = 0; address < 12; address++) {
                due("write at " + address, x.write(0, address, 1), address + 1);
            }
            x.take(0);
            for (int address = 0; address < 12; address++) {
                due("blockAt(0, " + address + ")", x.blockAt(0, address), address + 1);
                due("blockAt(16, " + address + ")", x.blockAt(16, address), address + 1);
            }
            due("write at -1", x.write(0, -1, 1), BAD);
            due("write at 12", x.write(0, 12, 1), BAD);
            thrown("blockAt(0, -1)", () -> x.blockAt(0, -1));
            thrown("blockAt(0, 12)", () -> x.blockAt(0, 12));
        });
        test(0, "at each there is a block or none.", () -> {
            SnapshotVolumes x = Pools.loaded("volume a;write a 0 1;write a 11 2;snap a s;");
            for (int address = 1; address < 11; address++) {
                due("blockAt(0, " + address + ")", x.blockAt(0, address), NONE);
                due("blockAt(16, " + address + ")", x.blockAt(16, address), NONE);
            }
            due("blockAt(0, 0)", x.blockAt(0, 0), 1);
            due("blockAt(16, 11)", x.blockAt(16, 11), 2);
        });
    }

    private static void theTime() {
        test(0, "The time is 0 at first", () -> {
            SnapshotVolumes x = new SnapshotVolumes();
            due("time", x.count(3), 0);
            x.newVolume();
            due("time", x.count(3), 0);
            due("time of an empty text", Pools.loaded("").count(3), 0);
            due("time of a text", Pools.loaded("volume a;trim a 0;").count(3), 0);
        });
        test(0, "each write and each snapshot that is taken makes it one greater, and the number that it then has is the "
            + "birth of the block that is written, or the time of the snapshot.", () -> {
            SnapshotVolumes x = new SnapshotVolumes();
            x.newVolume();
            due("the first birth", x.write(0, 0, 9), 1);
            x.take(0);
            due("the time of the snapshot", x.snapshotNumber(0, 1), 2);
            due("birth", x.write(0, 0, 1), 3);
            due("time", x.count(3), 3);
            x.write(0, 0, 10);
            x.take(1);
            due("time behind refused calls", x.count(3), 3);
            x = Pools.loaded("volume a;write a 0 1;write a 0 1;snap a s;trim a 0;clone s b;hold s;");
            due("time of a text", x.count(3), 3);
        });
        test(0, "each write and each snapshot that is taken makes it one greater", () -> {
            for (String name : CHANGES.keySet()) {
                SnapshotVolumes x = Pools.busy();
                CHANGES.get(name).on(x);
                due("time behind " + name, x.count(3), name.equals("write") || name.equals("take") ? 10 : 9);
            }
        });
    }

    private static void blocksAndOrigins() {
        test(0, "it has a size (1 to 9 units).", () -> {
            SnapshotVolumes x = Pools.loaded("volume a;");
            for (int size = 1; size <= 9; size++) {
                due("write of " + size, x.write(0, 0, size), size);
                due("sizeOf", x.sizeOf(size), size);
            }
            due("write of 0", x.write(0, 0, 0), BAD);
            due("write of 10", x.write(0, 0, 10), BAD);
        });
        test(0, "It is there as long as a version that is there has it; then it is free.", () -> {
            SnapshotVolumes x = Pools.loaded("volume a;write a 0 7;snap a s;snap a t;clone t b;");
            due("trim", x.trim(0, 0), 0);
            due("sizeOf", x.sizeOf(1), 7);
            due("destroyVolume", x.destroyVolume(1), 0);
            due("destroy", x.destroy(0), 0);
            due("the last version", x.holders(1), 2);
            due("destroy", x.destroy(1), 7);
            due("sizeOf", x.sizeOf(1), NONE);
            due("holders", x.holders(1), 0);
            due("blocks", x.count(2), 0);
            due("used", x.used(), 0);
        });
        test(0, "then it is free.", () -> {
            SnapshotVolumes x = Pools.loaded("volume a;write a 0 1;write a 1 2;write a 2 3;write a 3 4;");
            due("the oldest one goes", x.trim(0, 0), 1);
            due("blocks", x.count(2), 3);
            due("used", x.used(), 9);
            due("referenced", x.referenced(16), 9);
            due("sharing", x.sharing(), 1);
            due("oldest", x.birthIn(16, false), 2);
            due("newest", x.birthIn(16, true), 4);
            due("the newest one goes", x.trim(0, 3), 4);
            due("sameAt(16, 3)", x.sameAt(16, 3), 1 << 16);
            due("newest", x.birthIn(16, true), 3);
            due("take", x.take(0), 0);
            due("trim", x.trim(0, 1), 0);
            due("deadCount", x.deadCount(16), 1);
            due("deadBlock(16, 1)", x.deadBlock(16, 1), NONE);
            due("sharing", x.sharing(), 8 / 5.0);
            due("rollBack", x.rollBack(0), 0);
            due("holders", x.holders(2), 1 | 1 << 16);
            due("holders of a free one", x.holders(4), 0);
            due("used", x.used(), 5);
            due("destroyVolume", x.destroyVolume(0), 5);
        });
        test(0, "The first snapshots of a volume come behind its origin, if it has one: a volume that is made as a clone "
            + "of a snapshot has this as its origin, and begins with its blocks.", () -> {
            SnapshotVolumes x = Pools.loaded("volume a;snap a e;write a 0 7;write a 11 2;snap a s;trim a 0;");
            due("clone of an empty snapshot", x.clone(0), 1);
            due("its units", x.referenced(17), 0);
            due("clone", x.clone(1), 2);
            due("its origin", x.volumeNumber(2, 0), 1);
            due("its first block", x.blockAt(18, 0), 2);
            due("its last block", x.blockAt(18, 11), 3);
            due("unlike", x.unlike(18, 1), 0);
            due("take", x.take(2), 2);
            due("ahead of its first snapshot", x.before(2), 1);
            due("ahead of the first snapshot of a", x.before(0), NONE);
        });
    }

    private static void orderOfVersions() {
        String text = "volume a;snap a s;snap a t;clone t b;clone t c;snap c u;";
        test(0, "The version ahead of a snapshot is the one before it in the order of its volume, of the first one the "
            + "origin of the volume, if there is one;", () -> {
            SnapshotVolumes x = Pools.loaded(text);
            due("before(1)", x.before(1), 0);
            due("before(0), without an origin", x.before(0), NONE);
            due("before(2), behind an origin", x.before(2), 1);
            x.destroy(0);
            due("before(1), now the first one", x.before(1), NONE);
        });
        test(0, "the version ahead of a live state is the last snapshot of the volume, without snapshots the origin.", () -> {
            SnapshotVolumes x = Pools.loaded(text + "volume d;");
            due("before(16)", x.before(16), 1);
            due("before(17), without snapshots", x.before(17), 1);
            due("before(18)", x.before(18), 2);
            due("before(19), without an origin, too", x.before(19), NONE);
        });
        test(0, "The version behind a snapshot is the next one in the order of its volume, behind the last one the live "
            + "state.", () -> {
            SnapshotVolumes x = Pools.loaded(text);
            due("behind(0)", x.behind(0), 1);
            due("behind(1), not its clones", x.behind(1), 16);
            due("behind(2)", x.behind(2), 18);
        });
    }

    private static void settings() {
        test(0, "The settings, with their ranges and initial values, are POOL (1 to 999, initially 200), the most units "
            + "that all blocks which are there may have together", () -> {
            SnapshotVolumes x = new SnapshotVolumes();
            due("POOL", x.getSetting(POOL), 200);
            due("0", x.setSetting(POOL, 0), BAD);
            due("1000", x.setSetting(POOL, 1000), BAD);
            due("1", x.setSetting(POOL, 1), 200);
            x.newVolume();
            due("2 units", x.write(0, 0, 2), FULL);
            due("1 unit", x.write(0, 0, 1), 1);
            due("999", x.setSetting(POOL, 999), 1);
        });
        test(0, "and CLONES (0 to 5, initially 3), the most volumes that may have the same snapshot as their origin.", () -> {
            SnapshotVolumes x = Pools.loaded("volume a;snap a s;");
            due("CLONES", x.getSetting(CLONES), 3);
            due("-1", x.setSetting(CLONES, -1), BAD);
            due("6", x.setSetting(CLONES, 6), BAD);
            due("0", x.setSetting(CLONES, 0), 3);
            due("clone with 0", x.clone(0), NOT);
            due("5", x.setSetting(CLONES, 5), 0);
            for (int v = 1; v <= 5; v++) {
                due("clone with 5", x.clone(0), v);
            }
            due("clones", x.snapshotNumber(0, 3), 5);
        });
    }

    private static void writing() {
        test(0, "A write puts a new block to an address of a live state, in place of the one that was there", () -> {
            SnapshotVolumes x = Pools.loaded("volume a;write a 5 4;snap a s;");
            due("write", x.write(0, 5, 6), 3);
            due("the new one", x.blockAt(16, 5), 3);
            due("the snapshot keeps the old one", x.blockAt(0, 5), 1);
            due("write again", x.write(0, 5, 6), 4);
            due("the one in between is free", x.sizeOf(3), NONE);
            due("units", x.referenced(16), 6);
        });
        test(0, "a trim takes the block away.", () -> {
            SnapshotVolumes x = Pools.loaded("volume a;write a 5 4;snap a s;");
            due("trim", x.trim(0, 5), 0);
            due("no block", x.blockAt(16, 5), NONE);
            due("the snapshot keeps it", x.blockAt(0, 5), 1);
        });
        test(0, "A snapshot that is taken has the blocks that the live state has.", () -> {
            SnapshotVolumes x = Pools.loaded("volume a;");
            due("take of an empty one", x.take(0), 0);
            due("its units", x.referenced(0), 0);
            x.write(0, 0, 1);
            x.write(0, 11, 2);
            due("take", x.take(0), 1);
            due("unlike", x.unlike(1, 16), 0);
            due("its units", x.referenced(1), 3);
            x.trim(0, 0);
            due("its units", x.referenced(1), 3);
        });
    }

    private static void pool() {
        test(0, "would have more units than POOL (FULL)", () -> {
            SnapshotVolumes x = Pools.loaded("set pool 10;volume a;volume b;write a 0 5;");
            due("one more than POOL", x.write(1, 0, 6), FULL);
            due("just POOL", x.write(1, 0, 5), 2);
            due("one more", x.write(1, 1, 1), FULL);
            due("the units", x.used(), 10);
        });
        test(0, "would have more units than POOL (FULL)", () -> {
            SnapshotVolumes x = Pools.loaded("set pool 999;volume a;");
            for (int i = 0; i < 111; i++) {
                due("write", x.write(0, i % 12, 9), i + i / 12 + 1);
                if (i % 12 == 11) {
                    x.take(0);
                }
            }
            due("the units", x.used(), 999);
            due("one more", x.write(0, 11, 1), FULL);
            due("in place of one that is alone", x.write(0, 0, 9), 121);
        });
        test(0, "(without the old one, if no other version has it)", () -> {
            SnapshotVolumes x = Pools.loaded("set pool 10;volume a;write a 0 9;");
            due("the old one goes", x.write(0, 0, 9), 2);
            x.take(0);
            due("the old one stays", x.write(0, 0, 2), FULL);
            due("the old one stays", x.write(0, 0, 1), 4);
            due("the old one goes", x.write(0, 0, 2), FULL);
            x.setSetting(POOL, 9);
            due("more than POOL already", x.write(0, 0, 1), FULL);
            due("more than POOL already, elsewhere", x.write(0, 1, 1), FULL);
        });
    }

    private static void quota() {
        test(0, "or if the volume has a quota and its live state would have more units than that (OVER)", () -> {
            SnapshotVolumes x = Pools.loaded("volume a;write a 0 5;snap a s;volume b;");
            due("without a quota", x.write(1, 0, 9), 3);
            x.setQuota(0, 7);
            due("one more than the quota", x.write(0, 1, 3), OVER);
            due("just the quota", x.write(0, 1, 2), 4);
            due("one more", x.write(0, 2, 1), OVER);
            due("the old one does not count, though s has it", x.write(0, 0, 6), OVER);
            due("the old one does not count, though s has it", x.write(0, 0, 4), 5);
            due("the other volume", x.write(1, 1, 9), 6);
            x.setQuota(0, 1);
            due("over it already", x.write(0, 1, 1), OVER);
            x.setQuota(0, 0);
            due("none again", x.write(0, 1, 9), 7);
        });
        test(0, "the former is looked at first.", () -> {
            SnapshotVolumes x = Pools.loaded("set pool 9;volume a;write a 0 5;");
            x.setQuota(0, 8);
            due("both", x.write(0, 1, 5), FULL);
            due("the quota alone", x.write(0, 1, 4), OVER);
            due("both", x.wouldWrite(0, 1, 5), FULL);
        });
    }

    private static void promoting() {
        String text = "volume a;snap a s;snap a t;snap a u;clone s b;snap b p;clone u c;snap c q;";
        test(0, "the snapshots of the volume of the origin, from the first one up to the origin, become the first ones of "
            + "the promoted volume, in their order, ahead of its own", () -> {
            SnapshotVolumes x = Pools.loaded(text);
            due("the origin is the first one", x.promote(1), 1);
            same("row of b", row(x, 1), "0 3");
            same("row of a", row(x, 0), "1 2");
            due("the origin is the last one", x.promote(2), 2);
            same("row of c", row(x, 2), "1 2 4");
            same("row of a", row(x, 0), "");
            due("back again", x.promote(0), 2);
            same("row of a", row(x, 0), "1 2");
            same("row of c", row(x, 2), "4");
            x = Pools.loaded(text);
            due("all of them", x.promote(2), 3);
            same("row of c", row(x, 2), "0 1 2 4");
            due("the volume of s", x.snapshotNumber(0, 0), 2);
            due("the place of q", x.snapshotNumber(4, 4), 3);
            x = Pools.loaded("volume a;snap a s;clone s b;");
            due("to one without snapshots", x.promote(1), 1);
            same("row of b", row(x, 1), "0");
            same("row of a", row(x, 0), "");
        });
    }

    private static void origins() {
        test(0, "its origin becomes what was the origin of the other volume (or none)", () -> {
            SnapshotVolumes x = Pools.loaded("volume a;snap a s;clone s b;snap b t;clone t c;");
            due("promote", x.promote(2), 1);
            due("the origin of c", x.volumeNumber(2, 0), 0);
            due("promote", x.promote(2), 1);
            due("the origin of c, none", x.volumeNumber(2, 0), NONE);
            due("promote", x.promote(2), NOT);
            same("row of c", row(x, 2), "0 1");
        });
        test(0, "and the origin of the other volume becomes the snapshot that was the origin of the promoted one.", () -> {
            SnapshotVolumes x = Pools.loaded("volume a;snap a s;clone s b;clone s c;snap b t;clone t d;");
            x.promote(1);
            due("the origin of a", x.volumeNumber(0, 0), 0);
            due("the origin of c stays", x.volumeNumber(2, 0), 0);
            due("clones of s", x.clonesOf(0), 1 | 4);
            x.promote(3);
            due("the origin of b", x.volumeNumber(1, 0), 1);
            due("the origin of d", x.volumeNumber(3, 0), NONE);
            due("the origin of a stays", x.volumeNumber(0, 0), 0);
            due("ahead of a", x.before(16), 0);
            due("the volume of s", x.snapshotNumber(0, 0), 3);
        });
    }

    private static void destroying() {
        test(0, "A snapshot can be destroyed if no volume has it as its origin, and it is not held.", () -> {
            SnapshotVolumes x = Pools.loaded("volume a;snap a s;snap a t;snap a u;clone s b;hold t;");
            due("an origin", x.destroy(0), NOT);
            due("a held one", x.destroy(1), NOT);
            due("neither", x.destroy(2), 0);
            x.destroyVolume(1);
            x.hold(1, false);
            due("an origin no more", x.destroy(0), 0);
            due("held no more", x.destroy(1), 0);
        });
        test(0, "A volume can be destroyed, with all its snapshots, if none of these is the origin of another volume (one "
            + "that is there) or held.", () -> {
            SnapshotVolumes x = Pools.loaded("volume a;snap a s;snap a t;clone t b;hold s;");
            due("an origin and a held one", x.destroyVolume(0), NOT);
            x.hold(0, false);
            due("an origin", x.destroyVolume(0), NOT);
            x.destroyVolume(1);
            x.hold(1, true);
            due("a held one", x.destroyVolume(0), NOT);
            x.hold(1, false);
            due("the clone is gone, none is held", x.destroyVolume(0), 0);
            due("snapshots", x.count(5), 0);
        });
        test(0, "(A volume is not the origin of anything by its live state.)", () -> {
            SnapshotVolumes x = Pools.loaded("volume a;write a 0 9;snap a s;clone s b;");
            x.promote(1);
            due("a has no snapshots", x.destroyVolume(0), 0);
            due("b", x.destroyVolume(1), 9);
        });
    }

    private static void space() {
        test(0, "A version alone holds a block if no other version has it.", () -> {
            SnapshotVolumes x = Pools.loaded("volume a;write a 0 3;snap a s;write a 1 4;");
            due("exclusive(16)", x.exclusive(16), 4);
            due("exclusive(0)", x.exclusive(0), 0);
            x.trim(0, 0);
            due("exclusive(0)", x.exclusive(0), 3);
            x.clone(0);
            due("exclusive(0), with a clone", x.exclusive(0), 0);
        });
        test(0, "Destroying versions frees the blocks that no version has that stays.", () -> {
            SnapshotVolumes x = Pools.loaded("volume a;write a 0 3;write a 1 4;snap a s;snap a t;trim a 0;");
            due("destroy(0)", x.freedBy(1), 0);
            due("destroy(1)", x.freedBy(2), 0);
            due("both together", x.freedBy(3), 3);
            due("destroySet", x.destroySet(3), 3);
            due("used", x.used(), 4);
        });
        test(0, "The dead blocks of a version are those that the version ahead of it has and it has not", () -> {
            SnapshotVolumes x = Pools.loaded("volume a;write a 0 3;write a 1 4;snap a s;write a 2 1;");
            due("deadCount(16), none", x.deadCount(16), 0);
            x.write(0, 0, 1);
            x.trim(0, 1);
            due("deadCount(16)", x.deadCount(16), 2);
        });
        test(0, "without a version ahead there are none.", () -> {
            SnapshotVolumes x = Pools.loaded("volume a;write a 0 3;trim a 0;volume b;snap b s;");
            due("deadCount(16)", x.deadCount(16), 0);
            due("deadBlock(16, 0)", x.deadBlock(16, 0), NONE);
            due("deadCount(0)", x.deadCount(0), 0);
        });
    }

    private static void changes() {
        test(0, "The methods newVolume, write, trim, take, clone, promote, destroy, destroySet, destroyVolume, rollBack, "
            + "hold, setQuota and setSetting make changes; each call is one change.", () -> {
            for (String name : CHANGES.keySet()) {
                SnapshotVolumes x = Pools.busy();
                CHANGES.get(name).on(x);
                due("changes behind " + name, x.undoCount(), Pools.BUSY_CHANGES + 1);
            }
            SnapshotVolumes x = Pools.loaded("volume a;snap a s;snap a t;snap a u;");
            x.destroySet(7);
            due("changes behind destroySet of three", x.undoCount(), 1);
        });
        test(0, "If a change makes nothing different, it is a change all the same.", () -> {
            SnapshotVolumes x = Pools.loaded("volume a;snap a s;");
            due("rollBack", x.rollBack(0), 0);
            due("changes", x.undoCount(), 1);
            due("setQuota", x.setQuota(0, 0), 0);
            due("changes", x.undoCount(), 2);
            due("setSetting", x.setSetting(POOL, 200), 200);
            due("changes", x.undoCount(), 3);
            due("setSetting", x.setSetting(CLONES, 3), 3);
            due("undo", x.undo(), 3);
            due("undo", x.undo(), 2);
        });
    }

    private static void undone() {
        test(0, "A change can be undone; everything but the buffers and the error position (which stays that of the latest "
            + "load) is then as before it (names, too).", () -> {
            for (String name : CHANGES.keySet()) {
                SnapshotVolumes x = Pools.busy();
                CHANGES.get(name).on(x);
                due("undo of " + name, x.undo(), Pools.BUSY_CHANGES);
                same(name + ", undone", Pools.dump(x), Pools.dump(Pools.busy()));
                SnapshotVolumes changed = Pools.busy();
                CHANGES.get(name).on(changed);
                due(name + " changes something", Pools.dump(changed).equals(Pools.dump(Pools.busy())), false);
            }
        });
        test(0, "everything but the buffers and the error position (which stays that of the latest load)", () -> {
            SnapshotVolumes x = Pools.busy();
            x.newVolume();
            x.writeOut(0);
            Pools.feed(x, "12");
            due("the error", x.load(22), SnapshotVolumes.SYNTAX_ERROR);
            Pools.feed(x, "volume r;");
            due("undo", x.undo(), Pools.BUSY_CHANGES);
            due("errorPosition", x.errorPosition(), 20);
            due("outputAt(0)", x.outputAt(0), 'a');
            due("feed", x.feed(0, 0, 0, 0, 0), 40);
            due("load", x.load(9), 1);
        });
        test(0, "At most the 8 latest changes are kept.", () -> {
            SnapshotVolumes x = Pools.loaded("volume a;");
            for (int i = 1; i <= 9; i++) {
                x.setQuota(0, i);
            }
            for (int left = 7; left >= 0; left--) {
                due("undo", x.undo(), left);
                due("quota", x.volumeNumber(0, 2), left + 1);
            }
            due("a ninth", x.undo(), NONE);
            due("quota", x.volumeNumber(0, 2), 1);
        });
        test(0, "At most the 8 latest changes are kept.", () -> {
            SnapshotVolumes x = Pools.loaded("volume a;");
            int last = 0;
            for (int round = 0; round < 9; round++) {
                for (int i = 0; i < 8; i++) {
                    last++;
                    x.setQuota(0, last);
                }
                due("changes", x.undoCount(), 8);
                due("undo", x.undo(), 7);
                due("undo", x.undo(), 6);
                due("undo", x.undo(), 5);
                last -= 3;
                due("quota", x.volumeNumber(0, 2), last);
            }
        });
    }

    private static void refused() {
        String words = "A call that returns an error code or throws an exception changes nothing, except where its "
            + "description says otherwise.";
        Map<String, Calls> calls = new LinkedHashMap<>();
        calls.put("write, NOT_FOUND", x -> due("it", x.write(3, 0, 1), NONE));
        calls.put("write, BAD_VALUE", x -> due("it", x.write(0, 12, 1), BAD));
        calls.put("write, FULL", x -> due("it", x.write(2, 0, 4), FULL));
        calls.put("write, OVER", x -> due("it", x.write(0, 1, 2), OVER));
        calls.put("trim, NOT_FOUND", x -> due("it", x.trim(3, 0), NONE));
        calls.put("trim, BAD_VALUE", x -> due("it", x.trim(0, 12), BAD));
        calls.put("trim, NOT_ALLOWED", x -> due("it", x.trim(0, 1), NOT));
        calls.put("take, NOT_FOUND", x -> due("it", x.take(3), NONE));
        calls.put("clone, NOT_FOUND", x -> due("it", x.clone(3), NONE));
        calls.put("clone, NOT_ALLOWED", x -> due("it", x.clone(0), NOT));
        calls.put("promote, NOT_FOUND", x -> due("it", x.promote(3), NONE));
        calls.put("promote, NOT_ALLOWED", x -> due("it", x.promote(0), NOT));
        calls.put("destroy, NOT_FOUND", x -> due("it", x.destroy(3), NONE));
        calls.put("destroy, NOT_ALLOWED", x -> due("it", x.destroy(0), NOT));
        calls.put("destroySet, BAD_VALUE", x -> due("it", x.destroySet(0), BAD));
        calls.put("destroySet, NOT_FOUND", x -> due("it", x.destroySet(4 | 8), NONE));
        calls.put("destroySet, NOT_ALLOWED", x -> due("it", x.destroySet(4 | 2), NOT));
        calls.put("destroyVolume, NOT_FOUND", x -> due("it", x.destroyVolume(3), NONE));
        calls.put("destroyVolume, NOT_ALLOWED", x -> due("it", x.destroyVolume(0), NOT));
        calls.put("rollBack, NOT_FOUND", x -> due("it", x.rollBack(3), NONE));
        calls.put("rollBack, NOT_ALLOWED", x -> due("it", x.rollBack(0), NOT));
        calls.put("hold, NOT_FOUND", x -> due("it", x.hold(3, true), NONE));
        calls.put("hold, NOT_ALLOWED", x -> due("it", x.hold(1, true), NOT));
        calls.put("hold no more, NOT_ALLOWED", x -> due("it", x.hold(2, false), NOT));
        calls.put("setQuota, NOT_FOUND", x -> due("it", x.setQuota(3, 1), NONE));
        calls.put("setQuota, BAD_VALUE", x -> due("it", x.setQuota(0, 1000), BAD));
        calls.put("setSetting, BAD_VALUE", x -> due("it", x.setSetting(CLONES, 6), BAD));
        calls.put("setSetting of none, BAD_VALUE", x -> due("it", x.setSetting(2, 1), BAD));
        calls.put("load, BAD_VALUE", x -> due("it", x.load(21), BAD));
        calls.put("wouldWrite, FULL", x -> due("it", x.wouldWrite(2, 0, 4), FULL));
        calls.put("fewestToFree, BAD_VALUE", x -> due("it", x.fewestToFree(0), BAD));
        calls.put("freedBy, NOT_FOUND", x -> due("it", x.freedBy(8), NONE));
        calls.put("count, BAD_VALUE", x -> due("it", x.count(6), BAD));
        calls.put("blockAt, thrown", x -> thrown("it", () -> x.blockAt(3, 0)));
        calls.put("writeOut, thrown", x -> thrown("it", () -> x.writeOut(3)));
        calls.put("volumeNumber, thrown", x -> thrown("it", () -> x.volumeNumber(5, 0)));
        calls.put("snapshotNumber, thrown", x -> thrown("it", () -> x.snapshotNumber(16, 0)));
        calls.forEach((name, call) -> test(0, words, () -> unchanged(name, Pools::busy, call)));
    }

    private static void refusedWhenFull() {
        String words = "A call that returns an error code or throws an exception changes nothing";
        test(0, words, () -> unchanged("newVolume", Pools::full, x -> due("it", x.newVolume(), FULL)));
        test(0, words, () -> unchanged("take", Pools::full, x -> due("it", x.take(0), FULL)));
        test(0, words, () -> unchanged("clone", Pools::full, x -> due("it", x.clone(1), FULL)));
        test(0, words, () -> unchanged("undo", Pools::full, x -> due("it", x.undo(), NONE)));
        test(0, words, () -> unchanged("destroy", Pools::full, x -> due("it", x.destroy(0), NOT)));
        test(0, words, () -> {
            SnapshotVolumes x = new SnapshotVolumes();
            for (int i = 1; i <= 50; i++) {
                x.feed(0x20202020, 0x20202020, 0x20202020, 0x20202020, 0x20202020);
            }
            due("feed", x.feed(0, 0, 0, 0, 0), FULL);
            due("the buffer is as it was", x.load(1000), 0);
        });
    }

    private static void constants() {
        test(0, "`LIVE = 16`: What is added to the index of a volume to tell its live state as a version.", () -> {
            SnapshotVolumes x = Pools.full();
            due("LIVE", SnapshotVolumes.LIVE, 16);
            due("isThere(LIVE)", x.isThere(SnapshotVolumes.LIVE), true);
            due("isThere(LIVE + 5)", x.isThere(SnapshotVolumes.LIVE + 5), true);
            due("isThere(LIVE + 6)", x.isThere(SnapshotVolumes.LIVE + 6), false);
        });
        test(0, "`POOL = 0, CLONES = 1`: Settings.", () -> due("POOL, CLONES", POOL * 10 + CLONES, 1));
        test(0, "`NOT_FOUND = -1`: Error code: there is no such thing.", () -> due("NOT_FOUND", NONE, -1));
        test(0, "`BAD_VALUE = -2`: Error code: a parameter is out of range.", () -> due("BAD_VALUE", BAD, -2));
        test(0, "`FULL = -3`: Error code: a limit is reached.", () -> due("FULL", FULL, -3));
        test(0, "`NOT_ALLOWED = -4`: Error code: this is not allowed.", () -> due("NOT_ALLOWED", NOT, -4));
        test(0, "`OVER = -5`: Error code: a quota would be exceeded.", () -> due("OVER", OVER, -5));
        test(0, "`SYNTAX_ERROR = -11, RANGE_ERROR = -12, NAME_ERROR = -13, DUPLICATE_ERROR = -14, COUNT_ERROR = -15, "
            + "FULL_ERROR = -16`: Error codes of load.", () -> {
            due("SYNTAX_ERROR", SnapshotVolumes.SYNTAX_ERROR, -11);
            due("RANGE_ERROR", SnapshotVolumes.RANGE_ERROR, -12);
            due("NAME_ERROR", SnapshotVolumes.NAME_ERROR, -13);
            due("DUPLICATE_ERROR", SnapshotVolumes.DUPLICATE_ERROR, -14);
            due("COUNT_ERROR", SnapshotVolumes.COUNT_ERROR, -15);
            due("FULL_ERROR", SnapshotVolumes.FULL_ERROR, -16);
        });
    }
}
