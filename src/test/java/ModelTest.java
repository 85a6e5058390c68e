import java.util.ArrayDeque;
import java.util.ArrayList;
import java.util.HashSet;
import java.util.LinkedHashSet;
import java.util.List;
import java.util.Random;
import java.util.Set;

/**
 * Long runs of calls, drawn with fixed seeds, against a model that keeps everything as the document
 * tells it: an array of blocks for each version, the order of each volume as a list, all sets tried.
 */
public final class ModelTest {
    private static final int RUNS = 3000;
    private static final int CALLS = 512;
    private static final String OUT_OF_BOUNDS = "throws.IndexOutOfBoundsException";

    public static void main(String[] args) {
        int[] answers = new int[4];
        for (int seed = 1; seed <= RUNS; seed++) {
            String wrong = run(seed, answers);
            if (wrong != null) {
                System.out.println("seed " + seed + ": " + wrong);
                System.exit(1);
            }
        }
        System.out.println("model: " + RUNS + " runs as due; calls " + answers[0] + ", thrown " + answers[1]
            + ", loads " + answers[2] + ", sets found by fewestToFree " + answers[3]);
    }

    private static String run(int seed, int[] answers) {
        Random random = new Random(seed);
        SnapshotVolumes real = new SnapshotVolumes();
        Session model = new Session();
        List<String> told = new ArrayList<>();
        for (int i = 0; i < CALLS; i++) {
            Call call = draw(random, seed, model);
            String got = call.real(real);
            String due = call.model(model);
            told.add(call + " = " + got);
            answers[0]++;
            answers[1] += due.equals(OUT_OF_BOUNDS) ? 1 : 0;
            answers[2] += call.name.equals("load") && Integer.parseInt(due) > 0 ? 1 : 0;
            answers[3] += call.name.equals("fewestToFree") && Integer.parseInt(due) > 0 ? 1 : 0;
            if (!got.equals(due)) {
                return "call " + i + ", due is " + due + "\n" + String.join("\n", told);
            }
        }
        return null;
    }

    // ---- Drawing calls ----

    private static final String[] CHANGES = {
        "newVolume", "write", "write", "write", "write", "write", "write", "trim", "take", "take", "clone", "promote",
        "destroy", "destroySet", "destroyVolume", "rollBack", "hold", "setQuota", "setSetting", "undo", "undo"};
    private static final String[] QUERIES = {
        "errorPosition", "count", "named", "undoCount", "getSetting", "isThere", "volumeNumber", "snapshotNumber",
        "snapshotAt", "clonesOf", "before", "behind", "depthOf", "common", "blockAt", "birthIn", "sameAt",
        "besideOrigin", "wouldFree", "sizeOf", "holders", "used", "referenced", "exclusive", "shared", "unlike",
        "writtenSince", "deadCount", "deadBlock", "byDeadBlocks", "freedBy", "freedByVolume", "usedBySnapshots",
        "whyKept", "fewestToFree", "mostExclusive", "wouldMove", "wouldWrite", "sharing", "writeOut", "outputAt"};

    private static Call draw(Random r, int seed, Session s) {
        if (!s.waiting.isEmpty()) {
            return s.waiting.removeFirst();
        }
        // Every third run seldom destroys, so that many snapshots come to be there together.
        boolean growing = seed % 3 == 0;
        int kind = r.nextInt(growing ? 1000 : 100);
        if (kind < 2) {
            planLoad(r, s);
            return s.waiting.removeFirst();
        }
        String[] names = kind % 100 < 45 ? CHANGES : QUERIES;
        String name = names[r.nextInt(names.length)];
        if (growing && name.matches("destroy.*|rollBack|clone|newVolume|undo") && r.nextInt(12) != 0) {
            name = r.nextInt(4) == 0 ? "fewestToFree" : "write";
        }
        if (seed % 2 == 0 && (name.equals("setSetting") || name.equals("setQuota")) && r.nextInt(10) != 0) {
            name = "write";
        }
        return new Call(name, numbers(name, r, s));
    }

    private static void planLoad(Random r, Session s) {
        String text = text(r);
        int cut = r.nextInt(4) == 0 ? r.nextInt(20) : 0;
        byte[] bytes = new byte[(text.length() + cut + 19) / 20 * 20];
        for (int i = 0; i < bytes.length; i++) {
            bytes[i] = (byte) (i < text.length() ? text.charAt(i) : r.nextInt(3) == 0 ? '\n' : ' ');
        }
        for (int i = 0; i < bytes.length; i += 20) {
            int[] words = new int[5];
            for (int k = 0; k < 20; k++) {
                words[k / 4] = words[k / 4] << 8 | bytes[i + k] & 255;
            }
            s.waiting.add(new Call("feed", words));
        }
        if (r.nextInt(6) == 0) {
            s.waiting.add(new Call("load", r.nextBoolean() ? -1 - r.nextInt(3) : 1001 + r.nextInt(9)));
        }
        int length = r.nextInt(5) == 0 ? r.nextInt(bytes.length + 2) : text.length();
        s.waiting.add(new Call("load", length));
        s.waiting.add(new Call("errorPosition"));
    }

    private static final String[] NAMES = {"a", "b", "c", "volume", "set", "zz", "abcdef", "s", "t", "u", "pool"};

    private static String text(Random r) {
        StringBuilder text = new StringBuilder();
        List<String> volumes = new ArrayList<>();
        List<String> snaps = new ArrayList<>();
        int statements = r.nextInt(r.nextInt(4) == 0 ? 70 : 25);
        boolean spoilt = r.nextInt(4) == 0;
        for (int i = 0; i < statements && text.length() < 900; i++) {
            text.append(statement(r, volumes, snaps)).append(gap(r)).append(';').append(gap(r));
        }
        for (int i = 0; spoilt && text.length() > 0 && i <= r.nextInt(2); i++) {
            int at = r.nextInt(text.length());
            String signs = "abz;09 \n_A{`/:" + (char) 0 + (char) 233;
            char sign = signs.charAt(r.nextInt(signs.length()));
            switch (r.nextInt(3)) {
                case 0: text.setCharAt(at, sign); break;
                case 1: text.insert(at, sign); break;
                default: text.deleteCharAt(at); break;
            }
        }
        return text.length() > 1000 ? text.substring(0, 1000) : text.toString();
    }

    private static String gap(Random r) {
        return r.nextInt(3) != 0 ? "" : r.nextInt(2) == 0 ? " " : " \n";
    }

    private static String pick(Random r, List<String> names) {
        if (names.isEmpty() || r.nextInt(150) == 0) {
            return NAMES[r.nextInt(NAMES.length)];
        }
        return names.get(r.nextInt(names.size()));
    }

    private static String fresh(Random r, List<String> names, List<String> others) {
        String name = r.nextInt(60) == 0 ? pick(r, names) : r.nextInt(90) == 0 ? "toolong" : pick(r, others);
        for (int i = 0; i < 4 && names.contains(name); i++) {
            name = r.nextInt(2) == 0 ? NAMES[r.nextInt(NAMES.length)] : "" + (char) ('a' + r.nextInt(26));
        }
        names.add(name);
        return name;
    }

    private static String statement(Random r, List<String> volumes, List<String> snaps) {
        int kind = volumes.isEmpty() ? r.nextInt(40) == 0 ? 3 : 0 : r.nextInt(40);
        if (kind >= 8 && kind <= 11 && snaps.isEmpty() || kind < 2 && !volumes.isEmpty() && r.nextInt(3) != 0) {
            kind = 20;
        }
        int address = r.nextInt(80) == 0 ? 12 + r.nextInt(20) : r.nextInt(r.nextInt(3) == 0 ? 12 : 4);
        int size = r.nextInt(80) == 0 ? r.nextInt(30) : 1 + r.nextInt(9);
        String zeros = r.nextInt(20) == 0 ? "0000000000000" : r.nextInt(200) == 0 ? "99999999999" : "";
        switch (kind) {
            case 0: case 1:
                return "volume " + fresh(r, volumes, snaps);
            case 2: case 3: case 4: case 5: case 6:
                return "snap " + pick(r, volumes) + " " + fresh(r, snaps, volumes);
            case 8: case 9: case 10:
                return "clone " + pick(r, snaps) + " " + fresh(r, volumes, snaps);
            case 11:
                return "hold " + pick(r, snaps);
            case 12:
                return "set " + (r.nextBoolean() ? "pool " + zeros + (r.nextInt(6) == 0 ? r.nextInt(1100) : 30 + r.nextInt(99))
                    : "clones " + zeros + r.nextInt(r.nextInt(4) == 0 ? 8 : 5));
            case 13: case 14: case 15:
                return "trim " + pick(r, volumes) + " " + address;
            default:
                return "write " + pick(r, volumes) + " " + zeros + address + " " + zeros + size;
        }
    }

    private static int volume(Random r, Session s) {
        if (r.nextInt(25) == 0) {
            return wild(r, 6);
        }
        List<Integer> there = new ArrayList<>();
        for (int v = 0; v < s.now.volumes.size(); v++) {
            if (s.now.volumes.get(v).there) {
                there.add(v);
            }
        }
        return there.isEmpty() ? 0 : there.get(r.nextInt(there.size()));
    }

    private static int snapshot(Random r, Session s) {
        if (r.nextInt(25) == 0) {
            return wild(r, 16);
        }
        List<Integer> there = s.now.snapshotsThere();
        return there.isEmpty() ? 0 : there.get(r.nextInt(there.size()));
    }

    private static int version(Random r, Session s) {
        return r.nextInt(25) == 0 ? wild(r, 22) : r.nextInt(3) == 0 ? 16 + volume(r, s) : snapshot(r, s);
    }

    private static int wild(Random r, int limit) {
        int[] odd = {-1, -2, limit, limit + 1, Integer.MAX_VALUE, Integer.MIN_VALUE, Integer.MAX_VALUE - 15, 32, 16, 48};
        return r.nextInt(2) == 0 ? odd[r.nextInt(odd.length)] : r.nextInt(limit);
    }

    private static int address(Random r) {
        return r.nextInt(25) == 0 ? wild(r, 12) : r.nextInt(3) == 0 ? r.nextInt(12) : r.nextInt(4);
    }

    private static int set(Random r, Session s) {
        int set = 0;
        int often = 1 + r.nextInt(5);
        for (int snapshot : s.now.snapshotsThere()) {
            set |= r.nextInt(often) == 0 ? 1 << snapshot : 0;
        }
        return r.nextInt(25) == 0 ? set | 1 << r.nextInt(32) : set;
    }

    private static int letters(Random r) {
        String name = r.nextInt(2) == 0 ? NAMES[r.nextInt(NAMES.length)] : "" + (char) ('a' + r.nextInt(26));
        int code = Session.letters(name);
        switch (r.nextInt(12)) {
            case 0: return 0;
            case 1: return code | 1 << r.nextInt(32);
            case 2: return r.nextInt();
            default: return code;
        }
    }

    private static int[] numbers(String name, Random r, Session s) {
        switch (name) {
            case "count": return new int[] {r.nextInt(8) - 1};
            case "named": return new int[] {r.nextInt(2), letters(r)};
            case "getSetting": return new int[] {r.nextInt(5) - 1};
            case "isThere": case "before": case "depthOf": case "referenced": case "exclusive": case "deadCount":
                return new int[] {version(r, s)};
            case "volumeNumber": return new int[] {volume(r, s), r.nextInt(5) - 1};
            case "snapshotNumber": return new int[] {snapshot(r, s), r.nextInt(7) - 1};
            case "snapshotAt": return new int[] {volume(r, s), r.nextInt(10) - 1};
            case "common": case "shared": case "unlike": return new int[] {version(r, s), version(r, s)};
            case "blockAt": case "sameAt": return new int[] {version(r, s), address(r)};
            case "birthIn": return new int[] {version(r, s), r.nextInt(2)};
            case "wouldFree": case "trim": return new int[] {volume(r, s), address(r)};
            case "sizeOf": case "holders":
                return new int[] {r.nextInt(9) == 0 ? wild(r, 30) : r.nextInt(s.now.time + 2)};
            case "writtenSince": return new int[] {volume(r, s), snapshot(r, s)};
            case "deadBlock": return new int[] {version(r, s), r.nextInt(6) - 1};
            case "freedBy": case "destroySet": return new int[] {set(r, s)};
            case "fewestToFree":
                return new int[] {r.nextInt(20) == 0 ? (r.nextBoolean() ? -1 : 998) + r.nextInt(4) : 1 + r.nextInt(1 + r.nextInt(90))};
            case "wouldWrite": case "write":
                return new int[] {volume(r, s), address(r), r.nextInt(30) == 0 ? wild(r, 10) : 1 + r.nextInt(9)};
            case "hold": return new int[] {snapshot(r, s), r.nextInt(2)};
            case "setQuota": return new int[] {volume(r, s), r.nextInt(9) == 0 ? 998 + r.nextInt(4) : r.nextInt(60) - 2};
            case "setSetting":
                return r.nextInt(9) == 0 ? new int[] {r.nextInt(4) - 1, r.nextInt(1003) - 1}
                    : r.nextBoolean() ? new int[] {0, r.nextInt(300)} : new int[] {1, r.nextInt(8) - 1};
            case "outputAt": return new int[] {r.nextInt(90) - 3};
            case "besideOrigin": case "freedByVolume": case "usedBySnapshots": case "wouldMove": case "take":
            case "promote": case "destroyVolume": case "writeOut":
                return new int[] {volume(r, s)};
            case "clonesOf": case "behind": case "byDeadBlocks": case "whyKept": case "clone": case "destroy":
            case "rollBack":
                return new int[] {snapshot(r, s)};
            default: return new int[0];
        }
    }

    // ---- A call, and its answer by both ----

    private static final class Call {
        final String name;
        final int[] n;

        Call(String name, int... n) {
            this.name = name;
            this.n = n;
        }

        public String toString() {
            StringBuilder text = new StringBuilder(name).append('(');
            for (int i = 0; i < n.length; i++) {
                text.append(i == 0 ? "" : ", ").append(n[i]);
            }
            return text.append(')').toString();
        }

        String model(Session s) {
            try {
                return s.answer(name, n);
            } catch (NoSuch e) {
                return OUT_OF_BOUNDS;
            }
        }

        String real(SnapshotVolumes x) {
            try {
                return answer(x);
            } catch (IndexOutOfBoundsException e) {
                boolean machine = e.getClass() != IndexOutOfBoundsException.class;
                return machine ? "throws." + e.getClass().getName() : OUT_OF_BOUNDS;
            } catch (RuntimeException e) {
                return "throws." + e.getClass().getName();
            }
        }

        private String answer(SnapshotVolumes x) {
            switch (name) {
                case "isThere": return "" + x.isThere(n[0]);
                case "sharing": return "" + x.sharing();
                default: return "" + number(x);
            }
        }

        private int number(SnapshotVolumes x) {
            switch (name) {
                case "feed": return x.feed(n[0], n[1], n[2], n[3], n[4]);
                case "load": return x.load(n[0]);
                case "errorPosition": return x.errorPosition();
                case "count": return x.count(n[0]);
                case "named": return x.named(n[0] == 1, n[1]);
                case "undoCount": return x.undoCount();
                case "getSetting": return x.getSetting(n[0]);
                case "volumeNumber": return x.volumeNumber(n[0], n[1]);
                case "snapshotNumber": return x.snapshotNumber(n[0], n[1]);
                case "snapshotAt": return x.snapshotAt(n[0], n[1]);
                case "clonesOf": return x.clonesOf(n[0]);
                case "before": return x.before(n[0]);
                case "behind": return x.behind(n[0]);
                case "depthOf": return x.depthOf(n[0]);
                case "common": return x.common(n[0], n[1]);
                case "blockAt": return x.blockAt(n[0], n[1]);
                case "birthIn": return x.birthIn(n[0], n[1] == 1);
                case "sameAt": return x.sameAt(n[0], n[1]);
                case "besideOrigin": return x.besideOrigin(n[0]);
                case "wouldFree": return x.wouldFree(n[0], n[1]);
                case "sizeOf": return x.sizeOf(n[0]);
                case "holders": return x.holders(n[0]);
                case "used": return x.used();
                case "referenced": return x.referenced(n[0]);
                case "exclusive": return x.exclusive(n[0]);
                case "shared": return x.shared(n[0], n[1]);
                case "unlike": return x.unlike(n[0], n[1]);
                case "writtenSince": return x.writtenSince(n[0], n[1]);
                case "deadCount": return x.deadCount(n[0]);
                case "deadBlock": return x.deadBlock(n[0], n[1]);
                case "byDeadBlocks": return x.byDeadBlocks(n[0]);
                case "freedBy": return x.freedBy(n[0]);
                case "freedByVolume": return x.freedByVolume(n[0]);
                case "usedBySnapshots": return x.usedBySnapshots(n[0]);
                case "whyKept": return x.whyKept(n[0]);
                case "fewestToFree": return x.fewestToFree(n[0]);
                case "mostExclusive": return x.mostExclusive();
                case "wouldMove": return x.wouldMove(n[0]);
                case "wouldWrite": return x.wouldWrite(n[0], n[1], n[2]);
                case "newVolume": return x.newVolume();
                case "write": return x.write(n[0], n[1], n[2]);
                case "trim": return x.trim(n[0], n[1]);
                case "take": return x.take(n[0]);
                case "clone": return x.clone(n[0]);
                case "promote": return x.promote(n[0]);
                case "destroy": return x.destroy(n[0]);
                case "destroySet": return x.destroySet(n[0]);
                case "destroyVolume": return x.destroyVolume(n[0]);
                case "rollBack": return x.rollBack(n[0]);
                case "hold": return x.hold(n[0], n[1] == 1);
                case "setQuota": return x.setQuota(n[0], n[1]);
                case "setSetting": return x.setSetting(n[0], n[1]);
                case "undo": return x.undo();
                case "writeOut": return x.writeOut(n[0]);
                case "outputAt": return x.outputAt(n[0]);
                default: throw new IllegalStateException(name);
            }
        }
    }

    // ---- The model ----

    private static final class NoSuch extends RuntimeException {
        private static final long serialVersionUID = 1;
    }

    private static final class BadText extends RuntimeException {
        private static final long serialVersionUID = 1;
        final int code;
        final int position;

        BadText(int code, int position) {
            this.code = code;
            this.position = position;
        }
    }

    private static final class Block {
        final int birth;
        final int size;

        Block(int birth, int size) {
            this.birth = birth;
            this.size = size;
        }
    }

    private static final class Volume {
        boolean there = true;
        String name;
        int origin = -1;
        int quota;
        Block[] live = new Block[12];
        List<Integer> order = new ArrayList<>();
    }

    private static final class Snapshot {
        boolean there = true;
        String name;
        int time;
        boolean held;
        Block[] blocks;
    }

    private static final class Pool {
        int time;
        int limit = 200;
        int clones = 3;
        List<Volume> volumes = new ArrayList<>();
        List<Snapshot> snapshots = new ArrayList<>();

        Pool copy() {
            Pool p = new Pool();
            p.time = time;
            p.limit = limit;
            p.clones = clones;
            for (Volume v : volumes) {
                Volume w = new Volume();
                w.there = v.there;
                w.name = v.name;
                w.origin = v.origin;
                w.quota = v.quota;
                w.live = v.live.clone();
                w.order = new ArrayList<>(v.order);
                p.volumes.add(w);
            }
            for (Snapshot s : snapshots) {
                Snapshot t = new Snapshot();
                t.there = s.there;
                t.name = s.name;
                t.time = s.time;
                t.held = s.held;
                t.blocks = s.blocks.clone();
                p.snapshots.add(t);
            }
            return p;
        }

        boolean hasVolume(int v) {
            return v >= 0 && v < volumes.size() && volumes.get(v).there;
        }

        boolean hasSnapshot(int s) {
            return s >= 0 && s < snapshots.size() && snapshots.get(s).there;
        }

        boolean has(int w) {
            return w < 16 ? hasSnapshot(w) : hasVolume(w - 16);
        }

        Volume volume(int v) {
            if (!hasVolume(v)) {
                throw new NoSuch();
            }
            return volumes.get(v);
        }

        Snapshot snapshot(int s) {
            if (!hasSnapshot(s)) {
                throw new NoSuch();
            }
            return snapshots.get(s);
        }

        Block[] blocks(int w) {
            if (!has(w)) {
                throw new NoSuch();
            }
            return w < 16 ? snapshots.get(w).blocks : volumes.get(w - 16).live;
        }

        List<Integer> snapshotsThere() {
            List<Integer> list = new ArrayList<>();
            for (int s = 0; s < snapshots.size(); s++) {
                if (snapshots.get(s).there) {
                    list.add(s);
                }
            }
            return list;
        }

        List<Integer> versions() {
            List<Integer> list = snapshotsThere();
            for (int v = 0; v < volumes.size(); v++) {
                if (volumes.get(v).there) {
                    list.add(16 + v);
                }
            }
            return list;
        }

        Set<Block> blocksOf(Iterable<Integer> versions) {
            Set<Block> set = new LinkedHashSet<>();
            for (int w : versions) {
                for (Block b : blocks(w)) {
                    if (b != null) {
                        set.add(b);
                    }
                }
            }
            return set;
        }

        static int units(Iterable<Block> blocks) {
            int units = 0;
            for (Block b : blocks) {
                units += b.size;
            }
            return units;
        }

        int used() {
            return units(blocksOf(versions()));
        }

        int holders(Block b) {
            int bits = 0;
            for (int w : versions()) {
                for (Block c : blocks(w)) {
                    bits |= c == b ? 1 << w : 0;
                }
            }
            return bits;
        }

        Block withBirth(int birth) {
            for (Block b : blocksOf(versions())) {
                if (b.birth == birth) {
                    return b;
                }
            }
            return null;
        }

        // What would not be there any more without these versions.
        int freed(Set<Integer> gone) {
            List<Integer> staying = new ArrayList<>(versions());
            staying.removeAll(gone);
            Set<Block> free = blocksOf(versions());
            free.removeAll(blocksOf(staying));
            return units(free);
        }

        int homeOf(int s) {
            for (int v = 0; v < volumes.size(); v++) {
                if (volumes.get(v).there && volumes.get(v).order.contains(s)) {
                    return v;
                }
            }
            throw new IllegalStateException("snapshot without a volume");
        }

        int ahead(int w) {
            Volume v = volumes.get(w < 16 ? homeOf(w) : w - 16);
            int place = w < 16 ? v.order.indexOf(w) : v.order.size();
            return place > 0 ? v.order.get(place - 1) : v.origin;
        }

        int behind(int s) {
            int home = homeOf(s);
            List<Integer> order = volumes.get(home).order;
            int place = order.indexOf(s) + 1;
            return place < order.size() ? order.get(place) : 16 + home;
        }

        List<Integer> line(int w) {
            List<Integer> line = new ArrayList<>();
            for (int at = w; at != -1; at = ahead(at)) {
                line.add(at);
            }
            return line;
        }

        int clonesOf(int s) {
            int bits = 0;
            for (int v = 0; v < volumes.size(); v++) {
                bits |= volumes.get(v).there && volumes.get(v).origin == s ? 1 << v : 0;
            }
            return bits;
        }

        boolean destroyable(int s) {
            return clonesOf(s) == 0 && !snapshots.get(s).held;
        }

        boolean allDestroyable(Iterable<Integer> set) {
            for (int s : set) {
                if (!destroyable(s)) {
                    return false;
                }
            }
            return true;
        }

        List<Block> dead(int w) {
            int ahead = ahead(w);
            Set<Block> dead = new LinkedHashSet<>();
            if (ahead != -1) {
                dead.addAll(blocksOf(List.of(ahead)));
                dead.removeAll(blocksOf(List.of(w)));
            }
            List<Block> list = new ArrayList<>(dead);
            list.sort((a, b) -> a.birth - b.birth);
            return list;
        }

        int wouldWrite(int v, int address, int size) {
            if (!hasVolume(v)) {
                return -1;
            }
            if (address < 0 || address > 11 || size < 1 || size > 9) {
                return -2;
            }
            Pool then = copy();
            then.put(v, address, size);
            if (then.used() > limit) {
                return -3;
            }
            int quota = volumes.get(v).quota;
            if (quota > 0 && units(then.blocksOf(List.of(16 + v))) > quota) {
                return -5;
            }
            return then.time;
        }

        void put(int v, int address, int size) {
            time++;
            volumes.get(v).live[address] = new Block(time, size);
        }

        int take(int v, String name) {
            time++;
            Snapshot s = new Snapshot();
            s.time = time;
            s.name = name;
            s.blocks = volumes.get(v).live.clone();
            snapshots.add(s);
            volumes.get(v).order.add(snapshots.size() - 1);
            return snapshots.size() - 1;
        }

        int makeVolume(int origin, String name) {
            Volume v = new Volume();
            v.name = name;
            v.origin = origin;
            if (origin != -1) {
                v.live = snapshots.get(origin).blocks.clone();
            }
            volumes.add(v);
            return volumes.size() - 1;
        }

        int promote(int v) {
            Volume up = volumes.get(v);
            Volume down = volumes.get(homeOf(up.origin));
            int number = down.order.indexOf(up.origin) + 1;
            List<Integer> moved = new ArrayList<>(down.order.subList(0, number));
            down.order.subList(0, number).clear();
            up.order.addAll(0, moved);
            int origin = up.origin;
            up.origin = down.origin;
            down.origin = origin;
            return number;
        }

        void removeSnapshot(int s) {
            volumes.get(homeOf(s)).order.remove((Integer) s);
            snapshots.get(s).there = false;
        }

        int named(boolean snapshot, String name) {
            int size = snapshot ? snapshots.size() : volumes.size();
            for (int i = 0; i < size; i++) {
                boolean there = snapshot ? snapshots.get(i).there : volumes.get(i).there;
                String own = snapshot ? snapshots.get(i).name : volumes.get(i).name;
                if (there && name.equals(own)) {
                    return i;
                }
            }
            return -1;
        }
    }

    private static final class Session {
        Pool now = new Pool();
        final ArrayDeque<Pool> past = new ArrayDeque<>();
        final ArrayDeque<Call> waiting = new ArrayDeque<>();
        final List<Integer> input = new ArrayList<>();
        String output = "";
        int errorPosition = -1;

        static int letters(String name) {
            int code = 0;
            for (int i = 0; i < 6; i++) {
                code = code * 32 + (i < name.length() ? name.charAt(i) - 96 : 0);
            }
            return code;
        }

        static Set<Integer> set(int bits) {
            Set<Integer> set = new HashSet<>();
            for (int i = 0; i < 32; i++) {
                if ((bits >> i & 1) == 1) {
                    set.add(i);
                }
            }
            return set;
        }

        void change() {
            past.addLast(now.copy());
            if (past.size() > 8) {
                past.removeFirst();
            }
        }

        String answer(String name, int[] n) {
            switch (name) {
                case "isThere": return "" + now.has(n[0]);
                case "sharing": return "" + sharing();
                case "feed": return "" + feed(n);
                case "load": return "" + load(n[0]);
                case "errorPosition": return "" + errorPosition;
                case "undoCount": return "" + past.size();
                case "undo": return "" + undo();
                case "writeOut": return "" + writeOut(n[0]);
                case "outputAt": return "" + (n[0] < 0 || n[0] >= output.length() ? -1 : output.charAt(n[0]));
                default:
                    Integer changed = changed(name, n);
                    return "" + (changed != null ? changed : asked(name, n));
            }
        }

        private double sharing() {
            double all = 0;
            for (int w : now.versions()) {
                all += Pool.units(now.blocksOf(List.of(w)));
            }
            return now.used() == 0 ? 0 : all / now.used();
        }

        private int feed(int[] n) {
            if (input.size() + 20 > 1000) {
                return -3;
            }
            for (int word : n) {
                for (int shift = 24; shift >= 0; shift -= 8) {
                    input.add(word >> shift & 255);
                }
            }
            return input.size();
        }

        private int undo() {
            if (past.isEmpty()) {
                return -1;
            }
            now = past.removeLast();
            return past.size();
        }

        private int writeOut(int n) {
            Volume v = now.volume(n);
            StringBuilder text = new StringBuilder(v.name == null ? "*" : v.name).append(":");
            for (int s : v.order) {
                String name = now.snapshots.get(s).name;
                text.append(" ").append(name == null ? "*" : name);
            }
            for (Block b : v.live) {
                text.append(" ").append(b == null ? "-" : "" + b.birth);
            }
            output = text.toString();
            return output.length();
        }

        private int load(int length) {
            if (length < 0 || length > input.size()) {
                return -2;
            }
            StringBuilder text = new StringBuilder();
            for (int i = 0; i < length; i++) {
                text.append((char) (int) input.get(i));
            }
            input.clear();
            try {
                Text reader = new Text(text.toString());
                int statements = reader.all();
                now = reader.pool;
                past.clear();
                errorPosition = -1;
                return statements;
            } catch (BadText e) {
                errorPosition = e.position;
                return e.code;
            }
        }

        // The answer of a method that changes something; null if it is none of these.
        private Integer changed(String name, int[] n) {
            Pool p = now;
            switch (name) {
                case "newVolume":
                    if (p.volumes.size() == 6) {
                        return -3;
                    }
                    change();
                    return p.makeVolume(-1, null);
                case "write": {
                    int answer = p.wouldWrite(n[0], n[1], n[2]);
                    if (answer > 0) {
                        change();
                        p.put(n[0], n[1], n[2]);
                    }
                    return answer;
                }
                case "trim": return trim(n[0], n[1]);
                case "take":
                    if (!p.hasVolume(n[0]) || p.snapshots.size() == 16) {
                        return p.hasVolume(n[0]) ? -3 : -1;
                    }
                    change();
                    return p.take(n[0], null);
                case "clone": return cloneOf(n[0]);
                case "promote":
                    if (!p.hasVolume(n[0]) || p.volumes.get(n[0]).origin == -1) {
                        return p.hasVolume(n[0]) ? -4 : -1;
                    }
                    change();
                    return p.promote(n[0]);
                case "destroy": return p.hasSnapshot(n[0]) ? destroy(Set.of(n[0])) : -1;
                case "destroySet":
                    return n[0] == 0 ? -2 : !p.snapshotsThere().containsAll(set(n[0])) ? -1 : destroy(set(n[0]));
                case "destroyVolume": return destroyVolume(n[0]);
                case "rollBack": return rollBack(n[0]);
                case "hold": return hold(n[0], n[1] == 1);
                case "setQuota": return setQuota(n[0], n[1]);
                case "setSetting": return setSetting(n[0], n[1]);
                default: return null;
            }
        }

        private int trim(int v, int address) {
            if (!now.hasVolume(v)) {
                return -1;
            }
            if (address < 0 || address > 11) {
                return -2;
            }
            if (now.volumes.get(v).live[address] == null) {
                return -4;
            }
            change();
            int used = now.used();
            now.volumes.get(v).live[address] = null;
            return used - now.used();
        }

        private int cloneOf(int s) {
            if (!now.hasSnapshot(s)) {
                return -1;
            }
            if (now.volumes.size() == 6) {
                return -3;
            }
            if (Integer.bitCount(now.clonesOf(s)) >= now.clones) {
                return -4;
            }
            change();
            return now.makeVolume(s, null);
        }

        private int destroy(Set<Integer> gone) {
            if (!now.allDestroyable(gone)) {
                return -4;
            }
            change();
            int used = now.used();
            for (int s : gone) {
                now.removeSnapshot(s);
            }
            return used - now.used();
        }

        private int destroyVolume(int v) {
            if (!now.hasVolume(v)) {
                return -1;
            }
            if (!now.allDestroyable(now.volumes.get(v).order)) {
                return -4;
            }
            change();
            int used = now.used();
            for (int s : new ArrayList<>(now.volumes.get(v).order)) {
                now.removeSnapshot(s);
            }
            now.volumes.get(v).there = false;
            return used - now.used();
        }

        private int rollBack(int s) {
            if (!now.hasSnapshot(s)) {
                return -1;
            }
            Volume v = now.volumes.get(now.homeOf(s));
            List<Integer> later = new ArrayList<>(v.order.subList(v.order.indexOf(s) + 1, v.order.size()));
            if (!now.allDestroyable(later)) {
                return -4;
            }
            change();
            int used = now.used();
            for (int t : later) {
                now.removeSnapshot(t);
            }
            v.live = now.snapshots.get(s).blocks.clone();
            return used - now.used();
        }

        private int hold(int s, boolean held) {
            if (!now.hasSnapshot(s)) {
                return -1;
            }
            if (now.snapshots.get(s).held == held) {
                return -4;
            }
            change();
            now.snapshots.get(s).held = held;
            int number = 0;
            for (int t : now.snapshotsThere()) {
                number += now.snapshots.get(t).held ? 1 : 0;
            }
            return number;
        }

        private int setQuota(int v, int units) {
            if (!now.hasVolume(v)) {
                return -1;
            }
            if (units < 0 || units > 999) {
                return -2;
            }
            change();
            int old = now.volumes.get(v).quota;
            now.volumes.get(v).quota = units;
            return old;
        }

        private int setSetting(int setting, int value) {
            if (setting == 0 && value >= 1 && value <= 999) {
                change();
                int old = now.limit;
                now.limit = value;
                return old;
            }
            if (setting == 1 && value >= 0 && value <= 5) {
                change();
                int old = now.clones;
                now.clones = value;
                return old;
            }
            return -2;
        }

        private int asked(String name, int[] n) {
            Pool p = now;
            switch (name) {
                case "count": return count(n[0]);
                case "named": return namedBy(n[0] == 1, n[1]);
                case "getSetting": return n[0] == 0 ? p.limit : n[0] == 1 ? p.clones : -2;
                case "volumeNumber": return volumeNumber(p.volume(n[0]), n[1]);
                case "snapshotNumber": return snapshotNumber(n[0], n[1]);
                case "snapshotAt": {
                    List<Integer> order = p.volume(n[0]).order;
                    return n[1] < 0 || n[1] >= order.size() ? -1 : order.get(n[1]);
                }
                case "clonesOf": p.snapshot(n[0]); return p.clonesOf(n[0]);
                case "before": p.blocks(n[0]); return p.ahead(n[0]);
                case "behind": p.snapshot(n[0]); return p.behind(n[0]);
                case "depthOf": p.blocks(n[0]); return p.line(n[0]).size() - 1;
                case "common": return common(n[0], n[1]);
                case "blockAt": {
                    Block b = at(n[0], n[1]);
                    return b == null ? -1 : b.birth;
                }
                case "birthIn": return birthIn(n[0], n[1] == 1);
                case "sameAt": {
                    Block b = at(n[0], n[1]);
                    int bits = 0;
                    for (int w : p.versions()) {
                        bits |= p.blocks(w)[n[1]] == b ? 1 << w : 0;
                    }
                    return bits;
                }
                case "besideOrigin": {
                    Volume v = p.volume(n[0]);
                    List<Integer> own = new ArrayList<>(v.order);
                    own.add(16 + n[0]);
                    Set<Block> blocks = p.blocksOf(own);
                    if (v.origin != -1) {
                        blocks.removeAll(p.blocksOf(List.of(v.origin)));
                    }
                    return Pool.units(blocks);
                }
                case "wouldFree": {
                    p.volume(n[0]);
                    Block b = at(16 + n[0], n[1]);
                    return b != null && p.holders(b) == 1 << 16 + n[0] ? b.size : 0;
                }
                case "sizeOf": return p.withBirth(n[0]) == null ? -1 : p.withBirth(n[0]).size;
                case "holders": return p.withBirth(n[0]) == null ? 0 : p.holders(p.withBirth(n[0]));
                case "used": return p.used();
                default: return askedOfSpace(name, n);
            }
        }

        private int askedOfSpace(String name, int[] n) {
            Pool p = now;
            switch (name) {
                case "referenced": p.blocks(n[0]); return Pool.units(p.blocksOf(List.of(n[0])));
                case "exclusive": p.blocks(n[0]); return p.freed(Set.of(n[0]));
                case "shared": {
                    Set<Block> both = p.blocksOf(List.of(n[0]));
                    both.retainAll(p.blocksOf(List.of(n[1])));
                    return Pool.units(both);
                }
                case "unlike": {
                    int bits = 0;
                    for (int a = 0; a < 12; a++) {
                        bits |= p.blocks(n[0])[a] != p.blocks(n[1])[a] ? 1 << a : 0;
                    }
                    return bits;
                }
                case "writtenSince": {
                    int units = 0;
                    for (Block b : p.volume(n[0]).live) {
                        units += b != null && b.birth > p.snapshot(n[1]).time ? b.size : 0;
                    }
                    p.snapshot(n[1]);
                    return units;
                }
                case "deadCount": p.blocks(n[0]); return p.dead(n[0]).size();
                case "deadBlock": {
                    p.blocks(n[0]);
                    List<Block> dead = p.dead(n[0]);
                    return n[1] < 0 || n[1] >= dead.size() ? -1 : dead.get(n[1]).birth;
                }
                case "byDeadBlocks": {
                    p.snapshot(n[0]);
                    int ahead = p.ahead(n[0]);
                    int units = 0;
                    for (Block b : p.dead(p.behind(n[0]))) {
                        units += ahead == -1 || b.birth > p.snapshots.get(ahead).time ? b.size : 0;
                    }
                    return units;
                }
                case "freedBy": return p.snapshotsThere().containsAll(set(n[0])) ? p.freed(set(n[0])) : -1;
                case "freedByVolume": {
                    Set<Integer> gone = new HashSet<>(p.volume(n[0]).order);
                    gone.add(16 + n[0]);
                    return p.freed(gone);
                }
                case "usedBySnapshots": return p.freed(new HashSet<>(p.volume(n[0]).order));
                case "whyKept":
                    p.snapshot(n[0]);
                    return p.clonesOf(n[0]) != 0 ? 1 : p.snapshots.get(n[0]).held ? 2 : 0;
                case "fewestToFree": return fewest(n[0]);
                case "mostExclusive": {
                    int best = -1;
                    for (int s : p.snapshotsThere()) {
                        int units = p.freed(Set.of(s));
                        best = units > (best == -1 ? 0 : p.freed(Set.of(best))) ? s : best;
                    }
                    return best;
                }
                case "wouldMove": {
                    Volume v = p.volume(n[0]);
                    return v.origin == -1 ? 0 : p.copy().promote(n[0]);
                }
                case "wouldWrite": return p.wouldWrite(n[0], n[1], n[2]);
                default: throw new IllegalStateException(name);
            }
        }

        private Block at(int version, int address) {
            Block[] blocks = now.blocks(version);
            if (address < 0 || address > 11) {
                throw new NoSuch();
            }
            return blocks[address];
        }

        private int count(int what) {
            switch (what) {
                case 0: return now.volumes.size();
                case 1: return now.snapshots.size();
                case 2: return now.blocksOf(now.versions()).size();
                case 3: return now.time;
                case 4: return now.versions().size() - now.snapshotsThere().size();
                case 5: return now.snapshotsThere().size();
                default: return -2;
            }
        }

        private int namedBy(boolean snapshot, int letters) {
            for (Object thing : snapshot ? now.snapshots : now.volumes) {
                String name = snapshot ? ((Snapshot) thing).name : ((Volume) thing).name;
                if (name != null && letters(name) == letters) {
                    return now.named(snapshot, name);
                }
            }
            return -1;
        }

        private int volumeNumber(Volume v, int what) {
            return what == 0 ? v.origin : what == 1 ? v.order.size() : what == 2 ? v.quota : -2;
        }

        private int snapshotNumber(int s, int what) {
            Snapshot snapshot = now.snapshot(s);
            switch (what) {
                case 0: return now.homeOf(s);
                case 1: return snapshot.time;
                case 2: return snapshot.held ? 1 : 0;
                case 3: return Integer.bitCount(now.clonesOf(s));
                case 4: return now.volumes.get(now.homeOf(s)).order.indexOf(s);
                default: return -2;
            }
        }

        private int common(int a, int b) {
            now.blocks(a);
            now.blocks(b);
            List<Integer> other = now.line(b);
            for (int w : now.line(a)) {
                if (other.contains(w)) {
                    return w;
                }
            }
            return -1;
        }

        private int birthIn(int w, boolean newest) {
            int birth = -1;
            for (Block b : now.blocks(w)) {
                if (b != null && (birth == -1 || newest == b.birth > birth)) {
                    birth = b.birth;
                }
            }
            return birth;
        }

        private int fewest(int units) {
            if (units < 1 || units > 999) {
                return -2;
            }
            int able = 0;
            for (int s : now.snapshotsThere()) {
                able |= now.destroyable(s) ? 1 << s : 0;
            }
            int[] holders = new int[300];
            int[] sizes = new int[300];
            int length = 0;
            for (Block b : now.blocksOf(now.versions())) {
                holders[length] = now.holders(b);
                sizes[length++] = b.size;
            }
            int best = -1;
            int bestUnits = 0;
            for (int set = 1; set < 1 << 16; set++) {
                if ((set & ~able) != 0 || best != -1 && Integer.bitCount(set) > Integer.bitCount(best)) {
                    continue;
                }
                int freed = 0;
                for (int i = 0; i < length; i++) {
                    freed += (holders[i] & ~set) == 0 ? sizes[i] : 0;
                }
                boolean fewer = best == -1 || Integer.bitCount(set) < Integer.bitCount(best);
                if (freed >= units && (fewer || freed > bestUnits)) {
                    best = set;
                    bestUnits = freed;
                }
            }
            return best;
        }
    }

    // Cuts the text into tokens first, and then goes through them.
    private static final class Text {
        final Pool pool = new Pool();
        private final List<String> tokens = new ArrayList<>();
        private final List<Integer> positions = new ArrayList<>();
        private final Set<String> given = new HashSet<>();
        private int at = 0;

        Text(String text) {
            int i = 0;
            while (i < text.length()) {
                char c = text.charAt(i);
                int end = i + 1;
                if (c != ' ' && c != '\n') {
                    String run = c >= 'a' && c <= 'z' ? "[a-z]" : c >= '0' && c <= '9' ? "[0-9]" : "[^\\x00-\\uffff]";
                    while (end < text.length() && text.substring(end, end + 1).matches(run)) {
                        end++;
                    }
                    tokens.add(text.substring(i, end));
                    positions.add(i);
                }
                i = end;
            }
            tokens.add("");
            positions.add(text.length());
        }

        int all() {
            int statements = 0;
            while (at < tokens.size() - 1) {
                statement();
                if (!tokens.get(at).equals(";")) {
                    throw error(-11);
                }
                at++;
                statements++;
            }
            return statements;
        }

        private BadText error(int code) {
            return new BadText(code, positions.get(at));
        }

        private void statement() {
            switch (tokens.get(at)) {
                case "volume": {
                    countFirst(pool.volumes.size() == 6);
                    pool.makeVolume(-1, newName(false));
                    break;
                }
                case "write": {
                    at++;
                    int v = oldName(false);
                    int address = integer(0, 11);
                    int size = integer(1, 9);
                    if (pool.wouldWrite(v, address, size) < 0) {
                        at--;
                        throw error(-16);
                    }
                    pool.put(v, address, size);
                    break;
                }
                case "trim": {
                    at++;
                    int v = oldName(false);
                    pool.volumes.get(v).live[integer(0, 11)] = null;
                    break;
                }
                case "snap": {
                    countFirst(pool.snapshots.size() == 16);
                    int v = oldName(false);
                    pool.take(v, newName(true));
                    break;
                }
                case "clone": {
                    countFirst(pool.volumes.size() == 6);
                    int s = oldName(true);
                    if (Integer.bitCount(pool.clonesOf(s)) >= pool.clones) {
                        at--;
                        throw error(-15);
                    }
                    pool.makeVolume(s, newName(false));
                    break;
                }
                case "hold": {
                    at++;
                    int s = oldName(true);
                    if (pool.snapshots.get(s).held) {
                        at--;
                        throw error(-14);
                    }
                    pool.snapshots.get(s).held = true;
                    break;
                }
                case "set": {
                    at++;
                    String word = tokens.get(at);
                    if (!word.equals("pool") && !word.equals("clones")) {
                        throw error(-11);
                    }
                    if (!given.add(word)) {
                        throw error(-14);
                    }
                    at++;
                    if (word.equals("pool")) {
                        pool.limit = integer(1, 999);
                    } else {
                        pool.clones = integer(0, 5);
                    }
                    break;
                }
                default: throw error(-11);
            }
        }

        private void countFirst(boolean full) {
            if (full) {
                throw error(-15);
            }
            at++;
        }

        private String name() {
            if (!tokens.get(at).matches("[a-z]{1,6}")) {
                throw error(-11);
            }
            return tokens.get(at);
        }

        private String newName(boolean snapshot) {
            String name = name();
            if (pool.named(snapshot, name) != -1) {
                throw error(-14);
            }
            at++;
            return name;
        }

        private int oldName(boolean snapshot) {
            int found = pool.named(snapshot, name());
            if (found == -1) {
                throw error(-13);
            }
            at++;
            return found;
        }

        private int integer(int low, int high) {
            if (!tokens.get(at).matches("[0-9]+")) {
                throw error(-11);
            }
            java.math.BigInteger value = new java.math.BigInteger(tokens.get(at));
            if (value.compareTo(java.math.BigInteger.valueOf(low)) < 0 || value.compareTo(java.math.BigInteger.valueOf(high)) > 0) {
                throw error(-12);
            }
            at++;
            return value.intValue();
        }
    }
}
