/** What the tests share: texts that are fed and loaded, pools to ask, and all that a pool tells of itself. */
final class Pools {
    // The volumes: a (0) has the snapshots s (0) and t (1), which is held; c (1), a clone of s, has u (2);
    // d (2) has none. The births and sizes: 1 (5 units) and 2 (3) are in s, u and c; 4 (4 units) and 2 in t;
    // 4 in a; 6 (6 units) in u and c; 8 (9 units) in d.
    static final String BUSY = "set pool 30;set clones 2;volume a;write a 0 5;write a 1 3;snap a s;write a 0 4;snap a t;"
        + "trim a 1;clone s c;write c 2 6;snap c u;hold t;volume d;write d 11 9;";
    static final int BUSY_CHANGES = 6;
    private static final String[] NAMES = {"a", "c", "d", "s", "t", "u"};

    private Pools() {
    }

    static int feed(SnapshotVolumes x, String text) {
        int length = 0;
        for (int i = 0; i < text.length(); i += 20) {
            int[] words = new int[5];
            for (int k = 0; k < 20; k++) {
                int sign = i + k < text.length() ? text.charAt(i + k) : ' ';
                words[k / 4] = words[k / 4] << 8 | sign;
            }
            length = x.feed(words[0], words[1], words[2], words[3], words[4]);
        }
        return length;
    }

    static int load(SnapshotVolumes x, String text) {
        feed(x, text);
        return x.load(text.length());
    }

    static SnapshotVolumes loaded(String text) {
        SnapshotVolumes x = new SnapshotVolumes();
        int answer = load(x, text);
        if (answer < 0) {
            throw new IllegalStateException(answer + " at " + x.errorPosition() + ": " + text);
        }
        return x;
    }

    /** The name as the document tells it to the method named. */
    static int letters(String name) {
        int code = 0;
        for (int i = 0; i < 6; i++) {
            code = code << 5 | (i < name.length() ? name.charAt(i) - 96 : 0);
        }
        return code;
    }

    static String written(SnapshotVolumes x, int volume) {
        int length = x.writeOut(volume);
        StringBuilder text = new StringBuilder();
        for (int i = 0; i < length; i++) {
            text.append((char) x.outputAt(i));
        }
        return text.toString();
    }

    /**
     * The pool of BUSY and something in all that an object keeps: an error at 7, 6 changes, a snapshot (3) and
     * a volume (3) that are gone, a second clone of s (4), a quota of a, 20 bytes to load, and c in the output.
     */
    static SnapshotVolumes busy() {
        SnapshotVolumes x = loaded(BUSY);
        load(x, "volume 7;");
        x.setQuota(0, 5);
        x.take(2);
        x.destroy(3);
        x.newVolume();
        x.destroyVolume(3);
        x.clone(0);
        feed(x, "volume q;");
        x.writeOut(1);
        return x;
    }

    /** All that can ever come: 16 snapshots of the volume 0, and 5 clones of the first one; block 1 is in all. */
    static SnapshotVolumes full() {
        StringBuilder text = new StringBuilder("set clones 5;volume a;write a 0 9;");
        for (char name = 'a'; name < 'a' + 16; name++) {
            text.append("snap a ").append(name).append(';');
        }
        for (char name = 'b'; name < 'b' + 5; name++) {
            text.append("clone a ").append(name).append(';');
        }
        return loaded(text.toString());
    }

    /** All that the pool tells, some 450 calls at the most; the object is of no use behind it. */
    static String dump(SnapshotVolumes x) {
        StringBuilder text = new StringBuilder();
        for (int what = 0; what <= 5; what++) {
            text.append(what == 0 ? "counts" : "").append(' ').append(x.count(what));
        }
        text.append("\npool ").append(x.getSetting(0)).append(" clones ").append(x.getSetting(1));
        text.append(" changes ").append(x.undoCount()).append(" used ").append(x.used());
        text.append(" error at ").append(x.errorPosition()).append("\nnames");
        for (String name : NAMES) {
            text.append(' ').append(x.named(false, letters(name))).append(' ').append(x.named(true, letters(name)));
        }
        text.append("\nsizes");
        for (int birth = 0; birth < 13; birth++) {
            text.append(' ').append(x.sizeOf(birth));
        }
        for (int version = 0; version < 22; version++) {
            if (x.isThere(version)) {
                dumpVersion(x, version, text);
            }
        }
        dumpBuffers(x, text.append("\nbuffers"));
        return text.toString();
    }

    private static void dumpVersion(SnapshotVolumes x, int version, StringBuilder text) {
        text.append("\nversion ").append(version).append(':');
        for (int what = 0; what < 5 && version < 16; what++) {
            text.append(' ').append(x.snapshotNumber(version, what));
        }
        for (int what = 0; what < 3 && version >= 16; what++) {
            text.append(' ').append(x.volumeNumber(version - 16, what));
        }
        for (int k = 0; k < 3 && version >= 16; k++) {
            text.append(k == 0 ? " snapshots " : " ").append(x.snapshotAt(version - 16, k));
        }
        for (int address = 0; address < 12; address++) {
            text.append(address == 0 ? " blocks " : " ").append(x.blockAt(version, address));
        }
    }

    private static void dumpBuffers(SnapshotVolumes x, StringBuilder text) {
        for (int i = 0; i < 6; i++) {
            text.append(' ').append(x.outputAt(i));
        }
        text.append(' ').append(x.feed(0, 0, 0, 0, 0)).append(' ').append(x.load(9)).append(' ').append(x.errorPosition());
    }
}
