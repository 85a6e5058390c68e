/** The sentences of the methods that make changes, and those of undo, writeOut and outputAt. */
final class ChangeSentences extends Sentences {
    private static final String NO_SUCH_VOLUME = "NOT_FOUND if there is no such volume";
    private static final String NO_SUCH_SNAPSHOT = "NOT_FOUND if there is no such snapshot";
    private static final String IN_ORDER = "checked in this order.";
    private static final String ANY_ADDRESS = "`address`: 0 to 11";
    private static final String CANNOT = "NOT_ALLOWED if it cannot be destroyed (see DESTROYING)";

    private ChangeSentences() {
    }

    static void all() {
        newVolume();
        write();
        writeRefused();
        trim();
        trimRefused();
        take();
        cloning();
        cloneRefused();
        promote();
        destroy();
        destroySet();
        destroySetRefused();
        destroyVolume();
        rollBack();
        rollBackRefused();
        hold();
        setQuota();
        setSetting();
        undo();
        writeOut();
        outputAt();
    }

    private static void newVolume() {
        test(43, "Makes a volume without blocks and without an origin.", () -> {
            SnapshotVolumes x = Pools.busy();
            due("newVolume", x.newVolume(), 5);
            due("its blocks", x.referenced(21), 0);
            due("its origin", x.volumeNumber(5, 0), NONE);
            due("its snapshots", x.volumeNumber(5, 1), 0);
            due("its quota", x.volumeNumber(5, 2), 0);
            due("before", x.before(21), NONE);
            due("time", x.count(3), 9);
            same("its name", Pools.written(x, 5).substring(0, 2), "*:");
        });
        test(43, "Returns its index", () -> {
            SnapshotVolumes x = new SnapshotVolumes();
            for (int v = 0; v < 6; v++) {
                due("newVolume", x.newVolume(), v);
            }
        });
        test(43, "FULL if 6 volumes have come.", () -> {
            SnapshotVolumes x = new SnapshotVolumes();
            for (int v = 0; v < 6; v++) {
                x.newVolume();
                if (v < 5) {
                    x.destroyVolume(v);
                }
            }
            due("newVolume, one there", x.newVolume(), FULL);
            x.destroyVolume(5);
            due("newVolume, none there", x.newVolume(), FULL);
            x.undo();
            x.undo();
            due("newVolume, the sixth undone", x.newVolume(), 5);
        });
    }

    private static void write() {
        test(44, "Returns the birth of the block", () -> {
            SnapshotVolumes x = Pools.busy();
            due("write", x.write(2, 0, 1), 10);
            due("blockAt", x.blockAt(18, 0), 10);
            due("sizeOf", x.sizeOf(10), 1);
            due("holders", x.holders(10), 1 << 18);
            due("write in its place", x.write(2, 0, 1), 11);
            due("sizeOf the old one", x.sizeOf(10), NONE);
        });
        test(44, ANY_ADDRESS, () -> {
            due("0", Pools.busy().write(2, 0, 1), 10);
            due("11", Pools.busy().write(2, 11, 1), 10);
        });
        test(44, "`size`: 1 to 9", () -> {
            due("1", Pools.busy().write(2, 11, 1), 10);
            due("9", Pools.busy().write(2, 11, 9), 10);
        });
        test(44, "BAD_VALUE if address or size is out of range", () -> {
            answersFor(NO_ADDRESS, BAD, (x, address) -> x.write(2, address, 1));
            answersFor(outside(1, 9), BAD, (x, size) -> x.write(2, 11, size));
            answersFor(NO_ADDRESS, BAD, (x, address) -> x.write(2, address, 10));
        });
        test(44, NO_SUCH_VOLUME, () -> answersFor(NO_VOLUME, NONE, (x, volume) -> x.write(volume, 0, 1)));
    }

    private static void writeRefused() {
        test(44, "FULL or OVER (see WRITING)", () -> {
            SnapshotVolumes x = Pools.loaded("set pool 20;volume a;write a 0 5;write a 11 5;");
            due("up to POOL", x.write(0, 5, 9), 3);
            due("one unit over POOL", x.write(0, 6, 2), FULL);
            due("up to POOL", x.write(0, 6, 1), 4);
            x.setQuota(0, 20);
            due("up to the quota", x.write(0, 6, 1), 5);
            x.setSetting(POOL, 999);
            due("one unit over the quota", x.write(0, 6, 2), OVER);
            due("one unit over the quota", x.write(0, 7, 1), OVER);
            due("up to the quota", x.write(0, 0, 5), 6);
        });
        test(44, IN_ORDER, () -> {
            SnapshotVolumes x = Pools.loaded("set pool 5;volume a;write a 0 5;");
            x.setQuota(0, 1);
            due("NOT_FOUND, BAD_VALUE", x.write(1, 12, 0), NONE);
            due("BAD_VALUE of the address, FULL, OVER", x.write(0, 12, 9), BAD);
            due("BAD_VALUE of the size, FULL, OVER", x.write(0, 1, 10), BAD);
            due("FULL, OVER", x.write(0, 1, 1), FULL);
            due("OVER", x.write(0, 0, 2), OVER);
            due("none", x.write(0, 0, 1), 2);
        });
    }

    private static void trim() {
        test(45, "Returns the units that are free by that, 0 if another version has the block", () -> {
            SnapshotVolumes x = Pools.busy();
            due("alone", x.trim(2, 11), 9);
            due("a snapshot has it", x.trim(0, 0), 0);
            due("another live state has it", x.trim(4, 0), 0);
            due("the block", x.blockAt(20, 0), NONE);
            due("the other one", x.blockAt(17, 0), 1);
        });
        test(45, ANY_ADDRESS, () -> {
            SnapshotVolumes x = Pools.loaded("volume a;write a 0 1;write a 11 2;");
            due("0", x.trim(0, 0), 1);
            due("11", x.trim(0, 11), 2);
        });
    }

    private static void trimRefused() {
        test(45, NO_SUCH_VOLUME, () -> answersFor(NO_VOLUME, NONE, (x, volume) -> x.trim(volume, 0)));
        test(45, "BAD_VALUE if address is out of range", () -> answersFor(NO_ADDRESS, BAD, (x, address) -> x.trim(0, address)));
        test(45, "NOT_ALLOWED if there is no block", () -> {
            SnapshotVolumes x = Pools.loaded("volume a;write a 0 1;snap a s;volume b;");
            due("never written", x.trim(0, 11), NOT);
            due("trim", x.trim(0, 0), 0);
            due("trimmed already, though s has it", x.trim(0, 0), NOT);
            due("another volume has it", x.trim(1, 0), NOT);
        });
        test(45, IN_ORDER, () -> {
            SnapshotVolumes x = Pools.loaded("volume a;");
            due("NOT_FOUND, BAD_VALUE", x.trim(1, 12), NONE);
            due("NOT_FOUND, NOT_ALLOWED", x.trim(1, 0), NONE);
            due("BAD_VALUE, without a block", x.trim(0, 12), BAD);
        });
    }

    private static void take() {
        test(46, "Takes a snapshot of a volume; it is the last one in its order.", () -> {
            SnapshotVolumes x = Pools.busy();
            due("take", x.take(0), 4);
            same("row of a", row(x, 0), "0 1 4");
            due("its time", x.snapshotNumber(4, 1), 10);
            due("held", x.snapshotNumber(4, 2), 0);
            due("behind t", x.behind(1), 4);
            due("take of one without any", x.take(2), 5);
            same("row of d", row(x, 2), "5");
            x.promote(1);
            due("take behind promoting", x.take(1), 6);
            same("row of c", row(x, 1), "0 2 6");
        });
        test(46, "Returns the index of the snapshot", () -> {
            SnapshotVolumes x = Pools.loaded("volume a;volume b;");
            for (int s = 0; s < 16; s++) {
                due("take", x.take(s % 2), s);
            }
        });
        test(46, NO_SUCH_VOLUME, () -> answersFor(NO_VOLUME, NONE, (x, volume) -> x.take(volume)));
        test(46, "FULL if 16 snapshots have come", () -> {
            SnapshotVolumes x = Pools.loaded("volume a;");
            for (int s = 0; s < 16; s++) {
                due("take", x.take(0), s);
                due("destroy", x.destroy(s), 0);
            }
            due("take, none there", x.take(0), FULL);
            due("time", x.count(3), 16);
            x.undo();
            x.undo();
            due("take, the 16th undone", x.take(0), 15);
        });
        test(46, IN_ORDER, () -> {
            SnapshotVolumes x = Pools.full();
            x.destroyVolume(5);
            due("NOT_FOUND, FULL", x.take(5), NONE);
            due("NOT_FOUND, FULL", x.take(6), NONE);
            due("FULL", x.take(4), FULL);
        });
    }

    private static void cloning() {
        test(47, "Makes a volume as a clone of a snapshot.", () -> {
            SnapshotVolumes x = Pools.busy();
            due("clone of t", x.clone(1), 5);
            due("its origin", x.volumeNumber(5, 0), 1);
            due("its blocks", x.unlike(21, 1), 0);
            due("its snapshots", x.volumeNumber(5, 1), 0);
            due("its quota", x.volumeNumber(5, 2), 0);
            due("used", x.used(), 27);
            due("time", x.count(3), 9);
            same("its name", Pools.written(x, 5).substring(0, 2), "*:");
        });
        test(47, "Returns the index of the volume", () -> {
            SnapshotVolumes x = Pools.loaded("set clones 5;volume a;snap a s;");
            for (int v = 1; v < 6; v++) {
                due("clone", x.clone(0), v);
            }
        });
    }

    private static void cloneRefused() {
        test(47, NO_SUCH_SNAPSHOT, () -> answersFor(NO_SNAPSHOT, NONE, (x, snapshot) -> x.clone(snapshot)));
        test(47, "FULL if 6 volumes have come", () -> {
            SnapshotVolumes x = Pools.loaded("volume a;snap a s;");
            for (int v = 1; v < 6; v++) {
                due("clone", x.clone(0), v);
                due("destroyVolume", x.destroyVolume(v), 0);
            }
            due("clone, one there", x.clone(0), FULL);
            x.undo();
            x.undo();
            due("clone, the sixth undone", x.clone(0), 5);
        });
        test(47, "NOT_ALLOWED if the snapshot is the origin of as many volumes as CLONES tells, or more", () -> {
            SnapshotVolumes x = Pools.loaded("set clones 2;volume a;snap a s;snap a t;");
            due("the first one", x.clone(0), 1);
            due("the second one", x.clone(0), 2);
            due("a third one", x.clone(0), NOT);
            due("of another snapshot", x.clone(1), 3);
            x.setSetting(CLONES, 1);
            due("more than CLONES", x.clone(0), NOT);
            due("as many as CLONES", x.clone(1), NOT);
            x.setSetting(CLONES, 0);
            due("more than 0", x.clone(1), NOT);
            x.destroyVolume(3);
            due("as many as 0", x.clone(1), NOT);
            x.setSetting(CLONES, 2);
            x.destroyVolume(2);
            due("one is gone", x.clone(0), 4);
        });
        test(47, IN_ORDER, () -> {
            SnapshotVolumes x = Pools.full();
            due("NOT_FOUND, FULL", x.clone(16), NONE);
            due("FULL, NOT_ALLOWED", x.clone(0), FULL);
            x.setSetting(CLONES, 0);
            due("FULL, NOT_ALLOWED", x.clone(1), FULL);
            due("NOT_FOUND, NOT_ALLOWED", Pools.loaded("set clones 0;volume a;").clone(0), NONE);
        });
    }

    private static void promote() {
        test(48, "Promotes a volume (see PROMOTING).", () -> {
            SnapshotVolumes x = Pools.busy();
            due("promote", x.promote(1), 1);
            same("row of a", row(x, 0), "1");
            same("row of c", row(x, 1), "0 2");
            due("the origin of a", x.volumeNumber(0, 0), 0);
            due("the origin of c", x.volumeNumber(1, 0), NONE);
            due("the origin of the other clone", x.volumeNumber(4, 0), 0);
            due("used", x.used(), 27);
            due("time", x.count(3), 9);
            due("t is held still", x.snapshotNumber(1, 2), 1);
            due("quota of a", x.volumeNumber(0, 2), 5);
            due("destroy of s, an origin still", x.destroy(0), NOT);
        });
        test(48, "Returns the number of snapshots that it got", () -> {
            SnapshotVolumes x = Pools.full();
            due("the first one alone", x.promote(5), 1);
            due("back again", x.promote(0), 1);
            x.destroyVolume(1);
            x = Pools.loaded("volume a;snap a s;snap a t;snap a u;clone u b;snap b v;");
            due("all", x.promote(1), 3);
            due("its snapshots", x.volumeNumber(1, 1), 4);
        });
        test(48, NO_SUCH_VOLUME, () -> answersFor(NO_VOLUME, NONE, (x, volume) -> x.promote(volume)));
        test(48, "NOT_ALLOWED if it has no origin", () -> {
            SnapshotVolumes x = Pools.busy();
            due("promote(0)", x.promote(0), NOT);
            due("promote(2)", x.promote(2), NOT);
            due("promote(4)", x.promote(4), 1);
            due("promote(4), promoted", x.promote(4), NOT);
        });
        test(48, IN_ORDER, () -> {
            SnapshotVolumes x = Pools.loaded("volume a;volume b;");
            x.destroyVolume(1);
            due("NOT_FOUND", x.promote(1), NONE);
            due("NOT_ALLOWED", x.promote(0), NOT);
        });
    }

    private static void destroy() {
        test(49, "Returns the units that are free by that", () -> {
            SnapshotVolumes x = Pools.loaded("volume a;write a 0 5;write a 1 2;snap a s;write a 0 4;snap a t;trim a 0;");
            due("what s alone has", x.destroy(0), 5);
            due("what t alone has", x.destroy(1), 4);
            due("used", x.used(), 2);
            due("of one without blocks", Pools.loaded("volume a;snap a s;").destroy(0), 0);
        });
        test(49, NO_SUCH_SNAPSHOT, () -> answersFor(NO_SNAPSHOT, NONE, (x, snapshot) -> x.destroy(snapshot)));
        test(49, CANNOT, () -> {
            SnapshotVolumes x = Pools.busy();
            due("an origin", x.destroy(0), NOT);
            due("a held one", x.destroy(1), NOT);
            due("neither", x.destroy(2), 0);
            due("it is gone", x.isThere(2), false);
        });
        test(49, IN_ORDER, () -> {
            SnapshotVolumes x = Pools.busy();
            due("NOT_FOUND", x.destroy(3), NONE);
            due("NOT_ALLOWED", x.destroy(1), NOT);
        });
    }

    private static void destroySet() {
        String text = "volume a;write a 0 5;write a 1 2;snap a s;snap a t;write a 0 4;snap a u;trim a 0;";
        test(50, "Returns the units that are free by that", () -> {
            SnapshotVolumes x = Pools.loaded(text);
            due("one", x.destroySet(1), 0);
            due("two", x.destroySet(6), 9);
            due("snapshots", x.count(5), 0);
            due("all at once", Pools.loaded(text).destroySet(7), 9);
            due("just s and t", Pools.loaded(text).destroySet(3), 5);
        });
        test(50, "`set`: the snapshots as a bit set", () -> {
            SnapshotVolumes x = Pools.full();
            due("the last one", x.destroySet(1 << 15), 0);
            due("isThere(15)", x.isThere(15), false);
            due("isThere(14)", x.isThere(14), true);
            due("all that can be", x.destroySet(0x7ffe), 0);
            due("snapshots", x.count(5), 1);
        });
        test(50, "BAD_VALUE if the set is empty", () -> {
            due("of none", new SnapshotVolumes().destroySet(0), BAD);
            due("of some", Pools.busy().destroySet(0), BAD);
        });
    }

    private static void destroySetRefused() {
        test(50, "NOT_FOUND if it has a bit of a snapshot that is not there", () -> {
            SnapshotVolumes x = Pools.busy();
            for (int bit = 3; bit < 32; bit++) {
                due("the bit " + bit, x.destroySet(1 << bit), NONE);
                due("the bit " + bit + " and u", x.destroySet(1 << bit | 4), NONE);
            }
            due("all bits", x.destroySet(-1), NONE);
            due("isThere(2)", x.isThere(2), true);
            for (int bit = 16; bit < 32; bit++) {
                due("the bit " + bit, Pools.full().destroySet(1 << bit | 2), NONE);
            }
        });
        test(50, "NOT_ALLOWED if one of them cannot be destroyed", () -> {
            SnapshotVolumes x = Pools.busy();
            due("an origin", x.destroySet(1), NOT);
            due("a held one", x.destroySet(2), NOT);
            due("one and an origin", x.destroySet(4 | 1), NOT);
            due("one and a held one", x.destroySet(4 | 2), NOT);
            due("isThere(2)", x.isThere(2), true);
            due("one", x.destroySet(4), 0);
        });
        test(50, IN_ORDER, () -> {
            SnapshotVolumes x = Pools.busy();
            due("NOT_FOUND, NOT_ALLOWED", x.destroySet(1 | 8), NONE);
            due("NOT_FOUND, NOT_ALLOWED", x.destroySet(2 | MIN), NONE);
        });
    }

    private static void destroyVolume() {
        test(51, "Destroys a volume with all its snapshots.", () -> {
            SnapshotVolumes x = Pools.busy();
            due("destroyVolume(1)", x.destroyVolume(1), 6);
            due("isThere(2)", x.isThere(2), false);
            due("isThere(17)", x.isThere(17), false);
            due("isThere(0)", x.isThere(0), true);
            due("clones of s", x.clonesOf(0), 1 << 4);
        });
        test(51, "Returns the units that are free by that", () -> {
            due("of one without snapshots", Pools.busy().destroyVolume(2), 9);
            due("of one without blocks of its own", Pools.busy().destroyVolume(4), 0);
            due("of one without anything", Pools.loaded("volume a;").destroyVolume(0), 0);
            due("of all", Pools.loaded("volume a;write a 0 5;snap a s;write a 0 4;").destroyVolume(0), 9);
        });
        test(51, NO_SUCH_VOLUME, () -> answersFor(NO_VOLUME, NONE, (x, volume) -> x.destroyVolume(volume)));
        test(51, CANNOT, () -> {
            SnapshotVolumes x = Pools.loaded("volume a;snap a s;snap a t;clone t b;clone t c;hold s;");
            due("two clones, one held", x.destroyVolume(0), NOT);
            x.hold(0, false);
            x.destroyVolume(1);
            due("one clone", x.destroyVolume(0), NOT);
            x.destroyVolume(2);
            x.hold(1, true);
            due("the last one held", x.destroyVolume(0), NOT);
            x.hold(1, false);
            due("nothing in the way", x.destroyVolume(0), 0);
        });
        test(51, IN_ORDER, () -> {
            SnapshotVolumes x = Pools.loaded("volume a;snap a s;hold s;");
            due("NOT_FOUND", x.destroyVolume(1), NONE);
            due("NOT_ALLOWED", x.destroyVolume(0), NOT);
        });
    }

    private static void rollBack() {
        String text = "volume a;write a 0 1;snap a s;write a 1 2;snap a t;write a 1 4;write a 2 3;snap a u;write a 1 5;trim a 0;";
        test(52, "Rolls a volume back: all its snapshots behind a snapshot are destroyed, and its live state gets the blocks of this "
            + "one", () -> {
            SnapshotVolumes x = Pools.loaded(text);
            due("to the last one", x.rollBack(2), 5);
            due("unlike", x.unlike(2, 16), 0);
            same("row", row(x, 0), "0 1 2");
            due("to the first one", x.rollBack(0), 2 + 4 + 3);
            due("unlike", x.unlike(0, 16), 0);
            same("row", row(x, 0), "0");
            due("time", x.count(3), 8);
            due("isThere(2)", x.isThere(2), false);
            x = Pools.loaded("volume a;snap a s;write a 0 9;");
            due("to one without blocks", x.rollBack(0), 9);
            due("its units", x.referenced(16), 0);
        });
        test(52, "(whatever POOL and the quota are)", () -> {
            SnapshotVolumes x = Pools.loaded("volume a;write a 0 9;write a 1 9;snap a s;trim a 0;trim a 1;");
            x.setSetting(POOL, 1);
            x.setQuota(0, 1);
            due("rollBack", x.rollBack(0), 0);
            due("its units", x.referenced(16), 18);
        });
        test(52, "Returns the units that are free by that", () -> {
            due("none", Pools.loaded("volume a;write a 0 9;snap a s;").rollBack(0), 0);
            due("those of the live state", Pools.loaded("volume a;write a 0 9;snap a s;write a 0 8;").rollBack(0), 8);
            due("a clone has it", Pools.busy().rollBack(2), 0);
            SnapshotVolumes x = Pools.loaded("volume a;snap a s;write a 0 8;snap a t;clone t b;");
            x.promote(1);
            due("of a, which has no snapshots", x.volumeNumber(0, 1), 0);
            x.destroyVolume(0);
            due("of b", x.rollBack(0), 8);
        });
    }

    private static void rollBackRefused() {
        test(52, NO_SUCH_SNAPSHOT, () -> answersFor(NO_SNAPSHOT, NONE, (x, snapshot) -> x.rollBack(snapshot)));
        test(52, "NOT_ALLOWED if a snapshot behind it in its volume cannot be destroyed", () -> {
            SnapshotVolumes x = Pools.loaded("volume a;snap a s;snap a t;snap a u;snap a v;clone t b;hold u;");
            due("an origin and a held one behind it", x.rollBack(0), NOT);
            due("a held one behind it", x.rollBack(1), NOT);
            due("itself held", x.rollBack(2), 0);
            due("v is gone", x.isThere(3), false);
            x.hold(2, false);
            due("itself an origin", x.rollBack(1), 0);
            due("an origin behind it", x.rollBack(0), NOT);
            x.hold(0, true);
            x.destroyVolume(1);
            due("itself held", x.rollBack(0), 0);
            x = Pools.loaded("volume a;snap a s;clone s b;snap b t;hold t;");
            due("a held one behind it in another volume", x.rollBack(0), 0);
        });
        test(52, IN_ORDER, () -> {
            SnapshotVolumes x = Pools.loaded("volume a;snap a s;snap a t;snap a u;hold u;");
            x.destroy(1);
            due("NOT_FOUND, a held one behind it", x.rollBack(1), NONE);
            due("NOT_ALLOWED", x.rollBack(0), NOT);
        });
    }

    private static void hold() {
        test(53, "Holds a snapshot, or holds it no more.", () -> {
            SnapshotVolumes x = Pools.busy();
            x.hold(2, true);
            due("u is held", x.snapshotNumber(2, 2), 1);
            x.hold(1, false);
            due("t is held no more", x.snapshotNumber(1, 2), 0);
            due("u is held still", x.snapshotNumber(2, 2), 1);
        });
        test(53, "Returns the number of snapshots that are held then", () -> {
            SnapshotVolumes x = Pools.full();
            for (int s = 0; s < 16; s++) {
                due("hold(" + s + ")", x.hold(s, true), s + 1);
            }
            for (int s = 0; s < 16; s++) {
                due("hold(" + s + ") no more", x.hold(s, false), 15 - s);
            }
        });
        test(53, NO_SUCH_SNAPSHOT, () -> {
            answersFor(NO_SNAPSHOT, NONE, (x, snapshot) -> x.hold(snapshot, true));
            answersFor(NO_SNAPSHOT, NONE, (x, snapshot) -> x.hold(snapshot, false));
        });
        test(53, "NOT_ALLOWED if it is so already", () -> {
            SnapshotVolumes x = Pools.busy();
            due("t is held", x.hold(1, true), NOT);
            due("s is not", x.hold(0, false), NOT);
            due("t", x.hold(1, false), 0);
            due("t is held no more", x.hold(1, false), NOT);
        });
        test(53, IN_ORDER, () -> {
            SnapshotVolumes x = Pools.busy();
            due("NOT_FOUND, not held", x.hold(3, false), NONE);
            due("NOT_ALLOWED", x.hold(2, false), NOT);
        });
    }

    private static void setQuota() {
        test(54, "`units`: 0 for none, up to 999", () -> {
            SnapshotVolumes x = Pools.loaded("set pool 999;volume a;write a 0 5;");
            due("999", x.setQuota(0, 999), 0);
            due("a write", x.write(0, 1, 9), 2);
            due("1", x.setQuota(0, 1), 999);
            due("a write", x.write(0, 2, 1), OVER);
            due("0", x.setQuota(0, 0), 1);
            due("a write", x.write(0, 2, 9), 3);
        });
        test(54, "Returns the previous quota", () -> {
            SnapshotVolumes x = Pools.busy();
            due("of a", x.setQuota(0, 7), 5);
            due("of c, none", x.setQuota(1, 8), 0);
            due("of a again", x.setQuota(0, 7), 7);
            due("of c again", x.volumeNumber(1, 2), 8);
        });
        test(54, NO_SUCH_VOLUME, () -> answersFor(NO_VOLUME, NONE, (x, volume) -> x.setQuota(volume, 1)));
        test(54, "BAD_VALUE if units is out of range", () -> answersFor(outside(0, 999), BAD, (x, units) -> x.setQuota(0, units)));
        test(54, IN_ORDER, () -> {
            due("NOT_FOUND, BAD_VALUE", Pools.busy().setQuota(3, -1), NONE);
            due("NOT_FOUND, BAD_VALUE", Pools.busy().setQuota(6, 1000), NONE);
        });
    }

    private static void setSetting() {
        test(55, "`setting`: POOL or CLONES", () -> {
            SnapshotVolumes x = new SnapshotVolumes();
            due("POOL", x.setSetting(0, 7), 200);
            due("CLONES", x.setSetting(1, 4), 3);
            due("POOL", x.getSetting(0), 7);
            due("CLONES", x.getSetting(1), 4);
        });
        test(55, "`value`: the new value, in the range of the setting", () -> {
            SnapshotVolumes x = new SnapshotVolumes();
            due("POOL 1", x.setSetting(POOL, 1), 200);
            due("POOL 999", x.setSetting(POOL, 999), 1);
            due("CLONES 0", x.setSetting(CLONES, 0), 3);
            due("CLONES 5", x.setSetting(CLONES, 5), 0);
            due("POOL less than is used", Pools.busy().setSetting(POOL, 1), 30);
            due("CLONES less than there are", Pools.busy().setSetting(CLONES, 0), 2);
        });
        test(55, "Returns the previous value", () -> {
            SnapshotVolumes x = Pools.busy();
            due("POOL", x.setSetting(POOL, 31), 30);
            due("POOL again", x.setSetting(POOL, 31), 31);
        });
        test(55, "BAD_VALUE if setting is neither or value is out of its range.", () -> {
            answersFor(outside(0, 1), BAD, (x, setting) -> x.setSetting(setting, 1));
            answersFor(outside(1, 999), BAD, (x, value) -> x.setSetting(POOL, value));
            answersFor(outside(0, 5), BAD, (x, value) -> x.setSetting(CLONES, value));
        });
    }

    private static void undo() {
        test(56, "Returns the number of changes that can still be undone", () -> {
            SnapshotVolumes x = Pools.busy();
            for (int left = Pools.BUSY_CHANGES - 1; left >= 0; left--) {
                due("undo", x.undo(), left);
                due("undoCount", x.undoCount(), left);
            }
            due("volumes", x.count(0), 3);
            due("quota", x.volumeNumber(0, 2), 0);
        });
        test(56, "NOT_FOUND if there is none to undo.", () -> {
            due("of none", new SnapshotVolumes().undo(), NONE);
            due("behind a load", Pools.full().undo(), NONE);
            SnapshotVolumes x = new SnapshotVolumes();
            x.newVolume();
            due("the only one", x.undo(), 0);
            due("one more", x.undo(), NONE);
            x.newVolume();
            x.write(0, 12, 1);
            due("a refused call is none", x.undo(), 0);
            due("one more", x.undo(), NONE);
        });
    }

    private static void writeOut() {
        test(57, "its name, a colon, for each of its snapshots in their order a space and its name (a * instead of a name that there "
            + "is not, that of the volume, too), and then for each address, from 0 on, a space and the birth of the block of its live "
            + "state, or a minus sign if there is none.", () -> {
            SnapshotVolumes x = Pools.busy();
            same("a", Pools.written(x, 0), "a: s t 4 - - - - - - - - - - -");
            same("d", Pools.written(x, 2), "d: - - - - - - - - - - - 8");
            same("without a name", Pools.written(x, 4), "*: 1 2 - - - - - - - - - -");
            x.take(4);
            x.take(0);
            same("a snapshot without a name", Pools.written(x, 4), "*: * 1 2 - - - - - - - - - -");
            same("names and none", Pools.written(x, 0), "a: s t * 4 - - - - - - - - - - -");
            x.promote(1);
            same("those that it got ahead", Pools.written(x, 1), "c: s u 1 2 6 - - - - - - - - -");
            same("the longest names", Pools.written(Pools.loaded("volume abcdef;snap abcdef uvwxyz;"), 0),
                "abcdef: uvwxyz - - - - - - - - - - - -");
        });
        test(57, "the birth of the block of its live state", () -> {
            SnapshotVolumes x = Pools.loaded("volume a;");
            for (int i = 0; i < 100; i++) {
                x.write(0, i % 12, 1);
            }
            same("births of two and three digits", Pools.written(x, 0), "a: 97 98 99 100 89 90 91 92 93 94 95 96");
        });
        test(57, "Writes a volume to the output buffer, replacing its content", () -> {
            SnapshotVolumes x = Pools.full();
            int longest = x.writeOut(0);
            due("the last character", x.outputAt(longest - 1), '-');
            int shorter = x.writeOut(5);
            due("what the longer one had there", x.outputAt(shorter), NONE);
            due("outputAt(0)", x.outputAt(0), 'f');
        });
        test(57, "Returns the number of characters.", () -> {
            due("of d in busy", Pools.busy().writeOut(2), 26);
            due("of 16 snapshots", Pools.full().writeOut(0), 2 + 16 * 2 + 12 * 2);
        });
        test(57, "Throws `IndexOutOfBoundsException` if there is no such volume", () -> {
            throwsFor(NO_VOLUME, (x, volume) -> x.writeOut(volume));
            SnapshotVolumes x = Pools.busy();
            thrown("writeOut(3)", () -> x.writeOut(3));
            due("the content stays", x.outputAt(0), 'c');
        });
    }

    private static void outputAt() {
        test(58, "`index`: index of the character, from 0", () -> {
            SnapshotVolumes x = Pools.busy();
            String text = "c: u 1 2 6 - - - - - - - - -";
            for (int i = 0; i < text.length(); i++) {
                due("outputAt(" + i + ")", x.outputAt(i), text.charAt(i));
            }
            due("behind the last one", x.outputAt(text.length()), NONE);
        });
        test(58, "NOT_FOUND if there is none with that index.", () -> {
            answersFor(outside(0, 27), NONE, (x, index) -> x.outputAt(index));
            due("of an empty buffer", new SnapshotVolumes().outputAt(0), NONE);
            due("of an empty buffer", Pools.full().outputAt(0), NONE);
        });
    }
}
