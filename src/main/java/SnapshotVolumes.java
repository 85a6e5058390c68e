public final class SnapshotVolumes {
    public static final int LIVE = 16;
    public static final int POOL = 0, CLONES = 1;
    public static final int NOT_FOUND = -1;
    public static final int BAD_VALUE = -2;
    public static final int FULL = -3;
    public static final int NOT_ALLOWED = -4;
    public static final int OVER = -5;
    public static final int SYNTAX_ERROR = -11, RANGE_ERROR = -12, NAME_ERROR = -13, DUPLICATE_ERROR = -14, COUNT_ERROR = -15, FULL_ERROR = -16;

    private static final int MOST_VOLUMES = 6;
    // Snapshots are the versions below LIVE, so there can be no more of them.
    private static final int MOST_SNAPSHOTS = LIVE;
    private static final int VERSIONS = LIVE + MOST_VOLUMES;
    private static final int ADDRESSES = 12;
    private static final int LARGEST_BLOCK = 9;
    // A block that is there has a version that has it at its one address.
    private static final int MOST_BLOCKS = VERSIONS * ADDRESSES;
    private static final int MOST_UNITS = 999;
    private static final int FIRST_POOL = 200;
    private static final int MOST_CLONES = 5;
    private static final int FIRST_CLONES = 3;
    private static final int MOST_CHANGES = 8;
    private static final int INPUT_SIZE = 1000;
    private static final int FEED_SIZE = 20;
    private static final int NAME_LETTERS = 6;
    private static final int NO_NAME = 0;

    private final Store store = new Store();
    private final History history = new History();
    private final Loader loader = new Loader();
    private final Planner planner = new Planner();
    private final StringBuilder output = new StringBuilder();

    public SnapshotVolumes() {
    }

    // ---- Buffers and text ----

    public int feed(int a, int b, int c, int d, int e) {
        if (loader.filled + FEED_SIZE > INPUT_SIZE) {
            return FULL;
        }
        loader.append(a);
        loader.append(b);
        loader.append(c);
        loader.append(d);
        loader.append(e);
        return loader.filled;
    }

    public int load(int length) {
        if (length < 0 || length > loader.filled) {
            return BAD_VALUE;
        }
        int answer = loader.read(length);
        loader.filled = 0;
        if (loader.errorAt == NOT_FOUND) {
            store.copyFrom(loader.draft);
            history.forget();
        }
        return answer;
    }

    public int errorPosition() {
        return loader.errorAt;
    }

    public int writeOut(int volume) throws IndexOutOfBoundsException {
        needVolume(volume);
        output.setLength(0);
        appendName(store.volumeNames[volume]);
        output.append(':');
        int row = store.rowOf(volume);
        for (int snapshot = 0; snapshot < MOST_SNAPSHOTS; snapshot++) {
            if (contains(row, snapshot)) {
                output.append(' ');
                appendName(store.snapshotNames[snapshot]);
            }
        }
        for (int address = 0; address < ADDRESSES; address++) {
            output.append(' ');
            appendBirth(store.blocks.indexAt(LIVE + volume, address));
        }
        return output.length();
    }

    public int outputAt(int index) {
        if (index < 0 || index >= output.length()) {
            return NOT_FOUND;
        }
        return output.charAt(index);
    }

    // ---- What there is ----

    public int count(int what) {
        switch (what) {
            case 0:
                return store.volumesCome;
            case 1:
                return store.snapshotsCome;
            case 2:
                return store.blocks.length;
            case 3:
                return store.time;
            case 4:
                return Integer.bitCount(store.there & ~snapshotsBefore(LIVE));
            case 5:
                return Integer.bitCount(store.snapshotSet());
            default:
                return BAD_VALUE;
        }
    }

    public int named(boolean snapshot, int letters) {
        return snapshot ? store.snapshotWithName(letters) : store.volumeWithName(letters);
    }

    public int undoCount() {
        return history.length;
    }

    public int getSetting(int setting) {
        if (setting != POOL && setting != CLONES) {
            return BAD_VALUE;
        }
        return store.settings[setting];
    }

    public boolean isThere(int version) {
        return store.has(version);
    }

    public int volumeNumber(int volume, int what) throws IndexOutOfBoundsException {
        needVolume(volume);
        switch (what) {
            case 0:
                return store.origins[volume];
            case 1:
                return Integer.bitCount(store.rowOf(volume));
            case 2:
                return store.quotas[volume];
            default:
                return BAD_VALUE;
        }
    }

    public int snapshotNumber(int snapshot, int what) throws IndexOutOfBoundsException {
        needSnapshot(snapshot);
        switch (what) {
            case 0:
                return store.homes[snapshot];
            case 1:
                return store.times[snapshot];
            case 2:
                return contains(store.heldSet, snapshot) ? 1 : 0;
            case 3:
                return Integer.bitCount(store.offspring(snapshot));
            case 4:
                return store.placeOf(snapshot);
            default:
                return BAD_VALUE;
        }
    }

    public int snapshotAt(int volume, int k) throws IndexOutOfBoundsException {
        needVolume(volume);
        int row = store.rowOf(volume);
        for (int snapshot = 0; snapshot < MOST_SNAPSHOTS; snapshot++) {
            if (contains(row, snapshot) && store.placeOf(snapshot) == k) {
                return snapshot;
            }
        }
        return NOT_FOUND;
    }

    public int clonesOf(int snapshot) throws IndexOutOfBoundsException {
        needSnapshot(snapshot);
        return store.offspring(snapshot);
    }

    public int before(int version) throws IndexOutOfBoundsException {
        needVersion(version);
        return store.ahead(version);
    }

    public int behind(int snapshot) throws IndexOutOfBoundsException {
        needSnapshot(snapshot);
        return store.follower(snapshot);
    }

    public int depthOf(int version) throws IndexOutOfBoundsException {
        needVersion(version);
        return Integer.bitCount(store.lineage(version)) - 1;
    }

    public int common(int a, int b) throws IndexOutOfBoundsException {
        needVersion(a);
        needVersion(b);
        // What lies ahead of a version has a lower number (see Store), so the highest one lies deepest.
        return highest(store.lineage(a) & store.lineage(b));
    }

    public int blockAt(int version, int address) throws IndexOutOfBoundsException {
        needVersion(version);
        needAddress(address);
        int block = store.blocks.indexAt(version, address);
        return block == NOT_FOUND ? NOT_FOUND : store.blocks.births[block];
    }

    public int birthIn(int version, boolean newest) throws IndexOutOfBoundsException {
        needVersion(version);
        int last = store.blocks.numberWhere(bit(version), 0) - 1;
        return store.blocks.birthWhere(bit(version), 0, newest ? last : 0);
    }

    public int sameAt(int version, int address) throws IndexOutOfBoundsException {
        needVersion(version);
        needAddress(address);
        int block = store.blocks.indexAt(version, address);
        if (block == NOT_FOUND) {
            return store.there & ~store.blocks.ownersAt(address);
        }
        return store.blocks.owners[block];
    }

    // ---- Blocks and space ----

    public int besideOrigin(int volume) throws IndexOutOfBoundsException {
        needVolume(volume);
        int origin = store.origins[volume];
        int avoid = origin == NOT_FOUND ? 0 : bit(origin);
        Blocks blocks = store.blocks;
        return blocks.unitsWhere(0, avoid, 0) - blocks.unitsWhere(0, avoid | store.versionsOf(volume), 0);
    }

    public int wouldFree(int volume, int address) throws IndexOutOfBoundsException {
        needVolume(volume);
        needAddress(address);
        return store.blocks.unitsAloneAt(LIVE + volume, address);
    }

    public int sizeOf(int birth) {
        int block = store.blocks.indexOfBirth(birth);
        return block == NOT_FOUND ? NOT_FOUND : store.blocks.sizes[block];
    }

    public int holders(int birth) {
        int block = store.blocks.indexOfBirth(birth);
        return block == NOT_FOUND ? 0 : store.blocks.owners[block];
    }

    public int used() {
        return store.blocks.unitsWhere(0, 0, 0);
    }

    public int referenced(int version) throws IndexOutOfBoundsException {
        needVersion(version);
        return store.blocks.unitsWhere(bit(version), 0, 0);
    }

    public int exclusive(int version) throws IndexOutOfBoundsException {
        needVersion(version);
        return store.blocks.unitsOnlyOf(bit(version));
    }

    public int shared(int a, int b) throws IndexOutOfBoundsException {
        needVersion(a);
        needVersion(b);
        return store.blocks.unitsWhere(bit(a) | bit(b), 0, 0);
    }

    public int unlike(int a, int b) throws IndexOutOfBoundsException {
        needVersion(a);
        needVersion(b);
        int addresses = 0;
        for (int address = 0; address < ADDRESSES; address++) {
            if (store.blocks.indexAt(a, address) != store.blocks.indexAt(b, address)) {
                addresses |= bit(address);
            }
        }
        return addresses;
    }

    public int writtenSince(int volume, int snapshot) throws IndexOutOfBoundsException {
        needVolume(volume);
        needSnapshot(snapshot);
        return store.blocks.unitsWhere(bit(LIVE + volume), 0, store.times[snapshot]);
    }

    public int deadCount(int version) throws IndexOutOfBoundsException {
        needVersion(version);
        int ahead = store.ahead(version);
        return ahead == NOT_FOUND ? 0 : store.blocks.numberWhere(bit(ahead), bit(version));
    }

    public int deadBlock(int version, int k) throws IndexOutOfBoundsException {
        needVersion(version);
        int ahead = store.ahead(version);
        return ahead == NOT_FOUND ? NOT_FOUND : store.blocks.birthWhere(bit(ahead), bit(version), k);
    }

    public int byDeadBlocks(int snapshot) throws IndexOutOfBoundsException {
        needSnapshot(snapshot);
        int ahead = store.ahead(snapshot);
        int after = ahead == NOT_FOUND ? 0 : store.times[ahead];
        return store.blocks.unitsWhere(bit(snapshot), bit(store.follower(snapshot)), after);
    }

    public int freedBy(int set) {
        if ((set & ~store.snapshotSet()) != 0) {
            return NOT_FOUND;
        }
        return store.blocks.unitsOnlyOf(set);
    }

    public int freedByVolume(int volume) throws IndexOutOfBoundsException {
        needVolume(volume);
        return store.blocks.unitsOnlyOf(store.versionsOf(volume));
    }

    public int usedBySnapshots(int volume) throws IndexOutOfBoundsException {
        needVolume(volume);
        return store.blocks.unitsOnlyOf(store.rowOf(volume));
    }

    public int whyKept(int snapshot) throws IndexOutOfBoundsException {
        needSnapshot(snapshot);
        if (store.offspring(snapshot) != 0) {
            return 1;
        }
        return contains(store.heldSet, snapshot) ? 2 : 0;
    }

    public int fewestToFree(int units) {
        if (units < 1 || units > MOST_UNITS) {
            return BAD_VALUE;
        }
        return planner.smallestSet(store, units);
    }

    public int mostExclusive() {
        int best = NOT_FOUND;
        int most = 0;
        for (int snapshot = 0; snapshot < MOST_SNAPSHOTS; snapshot++) {
            int units = store.blocks.unitsOnlyOf(bit(snapshot));
            if (units > most) {
                most = units;
                best = snapshot;
            }
        }
        return best;
    }

    public int wouldMove(int volume) throws IndexOutOfBoundsException {
        needVolume(volume);
        int origin = store.origins[volume];
        return origin == NOT_FOUND ? 0 : store.placeOf(origin) + 1;
    }

    public int wouldWrite(int volume, int address, int size) {
        return store.writeAnswer(volume, address, size);
    }

    public double sharing() {
        int units = store.blocks.unitsWhere(0, 0, 0);
        if (units == 0) {
            return 0;
        }
        return (double) store.blocks.unitsByVersions() / (double) units;
    }

    // ---- Changes ----

    public int newVolume() {
        if (store.volumesCome >= MOST_VOLUMES) {
            return FULL;
        }
        history.keep(store);
        return store.addVolume(NO_NAME, NOT_FOUND);
    }

    public int write(int volume, int address, int size) {
        int answer = store.writeAnswer(volume, address, size);
        if (answer < 0) {
            return answer;
        }
        history.keep(store);
        store.putBlock(volume, address, size);
        return answer;
    }

    public int trim(int volume, int address) {
        if (!store.hasVolume(volume)) {
            return NOT_FOUND;
        }
        if (!isAddress(address)) {
            return BAD_VALUE;
        }
        if (store.blocks.indexAt(LIVE + volume, address) == NOT_FOUND) {
            return NOT_ALLOWED;
        }
        history.keep(store);
        return store.blocks.releaseAt(LIVE + volume, address);
    }

    public int take(int volume) {
        if (!store.hasVolume(volume)) {
            return NOT_FOUND;
        }
        if (store.snapshotsCome >= MOST_SNAPSHOTS) {
            return FULL;
        }
        history.keep(store);
        return store.addSnapshot(NO_NAME, volume);
    }

    public int clone(int snapshot) {
        if (!store.hasSnapshot(snapshot)) {
            return NOT_FOUND;
        }
        if (store.volumesCome >= MOST_VOLUMES) {
            return FULL;
        }
        if (!store.canBeCloned(snapshot)) {
            return NOT_ALLOWED;
        }
        history.keep(store);
        return store.addVolume(NO_NAME, snapshot);
    }

    public int promote(int volume) {
        if (!store.hasVolume(volume)) {
            return NOT_FOUND;
        }
        if (store.origins[volume] == NOT_FOUND) {
            return NOT_ALLOWED;
        }
        history.keep(store);
        return store.moveOriginInto(volume);
    }

    public int destroy(int snapshot) {
        if (!store.hasSnapshot(snapshot)) {
            return NOT_FOUND;
        }
        return destroyOrRefuse(bit(snapshot), bit(snapshot));
    }

    public int destroySet(int set) {
        if (set == 0) {
            return BAD_VALUE;
        }
        if ((set & ~store.snapshotSet()) != 0) {
            return NOT_FOUND;
        }
        return destroyOrRefuse(set, set);
    }

    public int destroyVolume(int volume) {
        if (!store.hasVolume(volume)) {
            return NOT_FOUND;
        }
        return destroyOrRefuse(store.rowOf(volume), store.versionsOf(volume));
    }

    public int rollBack(int snapshot) {
        if (!store.hasSnapshot(snapshot)) {
            return NOT_FOUND;
        }
        if (!store.canDestroyAll(store.rowBehind(snapshot))) {
            return NOT_ALLOWED;
        }
        history.keep(store);
        return store.returnTo(snapshot);
    }

    public int hold(int snapshot, boolean held) {
        if (!store.hasSnapshot(snapshot)) {
            return NOT_FOUND;
        }
        if (contains(store.heldSet, snapshot) == held) {
            return NOT_ALLOWED;
        }
        history.keep(store);
        store.heldSet ^= bit(snapshot);
        return Integer.bitCount(store.heldSet);
    }

    public int setQuota(int volume, int units) {
        if (!store.hasVolume(volume)) {
            return NOT_FOUND;
        }
        if (units < 0 || units > MOST_UNITS) {
            return BAD_VALUE;
        }
        history.keep(store);
        int previous = store.quotas[volume];
        store.quotas[volume] = units;
        return previous;
    }

    public int setSetting(int setting, int value) {
        if (setting != POOL && setting != CLONES) {
            return BAD_VALUE;
        }
        if (value < lowestValue(setting) || value > highestValue(setting)) {
            return BAD_VALUE;
        }
        history.keep(store);
        int previous = store.settings[setting];
        store.settings[setting] = value;
        return previous;
    }

    public int undo() {
        if (history.length == 0) {
            return NOT_FOUND;
        }
        history.giveBack(store);
        return history.length;
    }

    // ---- Helpers of the face ----

    private void needVersion(int version) {
        if (!store.has(version)) {
            throw new IndexOutOfBoundsException("no such version");
        }
    }

    private void needVolume(int volume) {
        if (!store.hasVolume(volume)) {
            throw new IndexOutOfBoundsException("no such volume");
        }
    }

    private void needSnapshot(int snapshot) {
        if (!store.hasSnapshot(snapshot)) {
            throw new IndexOutOfBoundsException("no such snapshot");
        }
    }

    private void needAddress(int address) {
        if (!isAddress(address)) {
            throw new IndexOutOfBoundsException("no such address");
        }
    }

    private void appendName(int name) {
        if (name == NO_NAME) {
            output.append('*');
        }
        for (int shift = 5 * (NAME_LETTERS - 1); shift >= 0; shift -= 5) {
            int letter = name >>> shift & 31;
            if (letter != 0) {
                output.append((char) ('a' - 1 + letter));
            }
        }
    }

    private void appendBirth(int block) {
        if (block == NOT_FOUND) {
            output.append('-');
        } else {
            output.append(store.blocks.births[block]);
        }
    }

    private int destroyOrRefuse(int snapshots, int versions) {
        if (!store.canDestroyAll(snapshots)) {
            return NOT_ALLOWED;
        }
        history.keep(store);
        return store.remove(versions);
    }

    private static boolean isAddress(int address) {
        return address >= 0 && address < ADDRESSES;
    }

    private static int lowestValue(int setting) {
        return setting == POOL ? 1 : 0;
    }

    private static int highestValue(int setting) {
        return setting == POOL ? MOST_UNITS : MOST_CLONES;
    }

    // ---- Sets of versions, as bits ----

    private static int bit(int version) {
        return 1 << version;
    }

    private static boolean contains(int set, int version) {
        return (set >>> version & 1) != 0;
    }

    private static int snapshotsBefore(int version) {
        return bit(version < LIVE ? version : LIVE) - 1;
    }

    private static int lowest(int set) {
        for (int version = 0; version < VERSIONS; version++) {
            if (contains(set, version)) {
                return version;
            }
        }
        return NOT_FOUND;
    }

    private static int highest(int set) {
        for (int version = VERSIONS - 1; version >= 0; version--) {
            if (contains(set, version)) {
                return version;
            }
        }
        return NOT_FOUND;
    }

    // The blocks that are there, in the order of their births. A block stays at the address to which
    // it was written, whatever versions come to have it; so one row for each block tells everything.
    private static final class Blocks {
        final int[] births = new int[MOST_BLOCKS];
        final int[] sizes = new int[MOST_BLOCKS];
        final int[] addresses = new int[MOST_BLOCKS];
        final int[] owners = new int[MOST_BLOCKS];
        int length = 0;

        void copyFrom(Blocks other) {
            length = other.length;
            System.arraycopy(other.births, 0, births, 0, length);
            System.arraycopy(other.sizes, 0, sizes, 0, length);
            System.arraycopy(other.addresses, 0, addresses, 0, length);
            System.arraycopy(other.owners, 0, owners, 0, length);
        }

        void append(int birth, int size, int address, int version) {
            if (length < MOST_BLOCKS) {
                births[length] = birth;
                sizes[length] = size;
                addresses[length] = address;
                owners[length] = bit(version);
                length++;
            }
        }

        int indexAt(int version, int address) {
            int mark = 1 << version;
            for (int i = 0; i < length; i++) {
                if (addresses[i] == address && (owners[i] & mark) != 0) {
                    return i;
                }
            }
            return NOT_FOUND;
        }

        int indexOfBirth(int birth) {
            for (int i = 0; i < length; i++) {
                if (births[i] == birth) {
                    return i;
                }
            }
            return NOT_FOUND;
        }

        int ownersAt(int address) {
            int set = 0;
            for (int i = 0; i < length; i++) {
                if (addresses[i] == address) {
                    set |= owners[i];
                }
            }
            return set;
        }

        private boolean fits(int i, int need, int avoid) {
            return (owners[i] & need) == need && (owners[i] & avoid) == 0;
        }

        // Of the blocks that all versions in need and no version in avoid have, born later than after.
        int unitsWhere(int need, int avoid, int after) {
            int units = 0;
            for (int i = 0; i < length; i++) {
                if (births[i] > after && fits(i, need, avoid)) {
                    units += sizes[i];
                }
            }
            return units;
        }

        int unitsOnlyOf(int versions) {
            return unitsWhere(0, ~versions, 0);
        }

        int unitsAloneAt(int version, int address) {
            int i = indexAt(version, address);
            return i != NOT_FOUND && owners[i] == bit(version) ? sizes[i] : 0;
        }

        int unitsByVersions() {
            int units = 0;
            for (int i = 0; i < length; i++) {
                units += sizes[i] * Integer.bitCount(owners[i]);
            }
            return units;
        }

        int numberWhere(int need, int avoid) {
            int number = 0;
            for (int i = 0; i < length; i++) {
                if (fits(i, need, avoid)) {
                    number++;
                }
            }
            return number;
        }

        int birthWhere(int need, int avoid, int k) {
            int number = 0;
            for (int i = 0; i < length; i++) {
                if (fits(i, need, avoid)) {
                    if (number == k) {
                        return births[i];
                    }
                    number++;
                }
            }
            return NOT_FOUND;
        }

        void lend(int from, int to) {
            for (int i = 0; i < length; i++) {
                if (contains(owners[i], from)) {
                    owners[i] |= bit(to);
                }
            }
        }

        int release(int versions) {
            for (int i = 0; i < length; i++) {
                owners[i] &= ~versions;
            }
            return sweep();
        }

        int releaseAt(int version, int address) {
            int i = indexAt(version, address);
            if (i == NOT_FOUND) {
                return 0;
            }
            owners[i] &= ~bit(version);
            return sweep();
        }

        private int sweep() {
            int kept = 0;
            int freed = 0;
            for (int i = 0; i < length; i++) {
                if (owners[i] == 0) {
                    freed += sizes[i];
                } else {
                    births[kept] = births[i];
                    sizes[kept] = sizes[i];
                    addresses[kept] = addresses[i];
                    owners[kept] = owners[i];
                    kept++;
                }
            }
            length = kept;
            return freed;
        }
    }

    // Everything that a change can alter. The order of the snapshots of a volume is not kept: it is
    // that of their indexes, and a volume's origin has a lower index than all of them. For a snapshot
    // that is taken has the highest index so far; and promoting moves snapshots up to the origin
    // ahead of those that have higher indexes than the origin, and leaves higher ones behind.
    private static final class Store {
        int time;
        int volumesCome;
        int snapshotsCome;
        int there;
        int heldSet;
        final int[] settings = new int[2];
        final int[] homes = new int[MOST_SNAPSHOTS];
        final int[] times = new int[MOST_SNAPSHOTS];
        final int[] snapshotNames = new int[MOST_SNAPSHOTS];
        final int[] volumeNames = new int[MOST_VOLUMES];
        final int[] origins = new int[MOST_VOLUMES];
        final int[] quotas = new int[MOST_VOLUMES];
        final Blocks blocks = new Blocks();

        Store() {
            reset();
        }

        void reset() {
            time = 0;
            volumesCome = 0;
            snapshotsCome = 0;
            there = 0;
            heldSet = 0;
            settings[POOL] = FIRST_POOL;
            settings[CLONES] = FIRST_CLONES;
            blocks.length = 0;
        }

        void copyFrom(Store other) {
            time = other.time;
            volumesCome = other.volumesCome;
            snapshotsCome = other.snapshotsCome;
            there = other.there;
            heldSet = other.heldSet;
            System.arraycopy(other.settings, 0, settings, 0, 2);
            System.arraycopy(other.homes, 0, homes, 0, MOST_SNAPSHOTS);
            System.arraycopy(other.times, 0, times, 0, MOST_SNAPSHOTS);
            System.arraycopy(other.snapshotNames, 0, snapshotNames, 0, MOST_SNAPSHOTS);
            System.arraycopy(other.volumeNames, 0, volumeNames, 0, MOST_VOLUMES);
            System.arraycopy(other.origins, 0, origins, 0, MOST_VOLUMES);
            System.arraycopy(other.quotas, 0, quotas, 0, MOST_VOLUMES);
            blocks.copyFrom(other.blocks);
        }

        boolean has(int version) {
            return version >= 0 && version < VERSIONS && contains(there, version);
        }

        boolean hasSnapshot(int snapshot) {
            return snapshot < LIVE && has(snapshot);
        }

        boolean hasVolume(int volume) {
            return volume >= 0 && volume < MOST_VOLUMES && contains(there, LIVE + volume);
        }

        int snapshotSet() {
            return there & snapshotsBefore(LIVE);
        }

        int rowOf(int volume) {
            int row = 0;
            for (int snapshot = 0; snapshot < MOST_SNAPSHOTS; snapshot++) {
                if (contains(there, snapshot) && homes[snapshot] == volume) {
                    row |= bit(snapshot);
                }
            }
            return row;
        }

        int versionsOf(int volume) {
            return rowOf(volume) | bit(LIVE + volume);
        }

        int rowAhead(int version) {
            return rowOf(homeOf(version)) & snapshotsBefore(version);
        }

        int rowBehind(int snapshot) {
            return rowOf(homes[snapshot]) & ~snapshotsBefore(snapshot + 1);
        }

        int homeOf(int version) {
            return version < LIVE ? homes[version] : version - LIVE;
        }

        int placeOf(int snapshot) {
            return Integer.bitCount(rowAhead(snapshot));
        }

        int ahead(int version) {
            int row = rowAhead(version);
            return row == 0 ? origins[homeOf(version)] : highest(row);
        }

        int follower(int snapshot) {
            int row = rowBehind(snapshot);
            return row == 0 ? LIVE + homes[snapshot] : lowest(row);
        }

        // The version itself and all that lie ahead of it.
        int lineage(int version) {
            int set = 0;
            int next = version;
            for (int steps = 0; steps < VERSIONS && next != NOT_FOUND; steps++) {
                set |= bit(next);
                next = ahead(next);
            }
            return set;
        }

        int offspring(int snapshot) {
            int volumes = 0;
            for (int volume = 0; volume < MOST_VOLUMES; volume++) {
                if (contains(there, LIVE + volume) && origins[volume] == snapshot) {
                    volumes |= bit(volume);
                }
            }
            return volumes;
        }

        boolean canBeCloned(int snapshot) {
            return Integer.bitCount(offspring(snapshot)) < settings[CLONES];
        }

        boolean canDestroy(int snapshot) {
            return offspring(snapshot) == 0 && !contains(heldSet, snapshot);
        }

        boolean canDestroyAll(int snapshots) {
            for (int snapshot = 0; snapshot < MOST_SNAPSHOTS; snapshot++) {
                if (contains(snapshots, snapshot) && !canDestroy(snapshot)) {
                    return false;
                }
            }
            return true;
        }

        int volumeWithName(int name) {
            for (int volume = 0; name != NO_NAME && volume < MOST_VOLUMES; volume++) {
                if (contains(there, LIVE + volume) && volumeNames[volume] == name) {
                    return volume;
                }
            }
            return NOT_FOUND;
        }

        int snapshotWithName(int name) {
            for (int snapshot = 0; name != NO_NAME && snapshot < MOST_SNAPSHOTS; snapshot++) {
                if (contains(there, snapshot) && snapshotNames[snapshot] == name) {
                    return snapshot;
                }
            }
            return NOT_FOUND;
        }

        int writeAnswer(int volume, int address, int size) {
            if (!hasVolume(volume)) {
                return NOT_FOUND;
            }
            if (!isAddress(address) || size < 1 || size > LARGEST_BLOCK) {
                return BAD_VALUE;
            }
            int live = LIVE + volume;
            if (blocks.unitsWhere(0, 0, 0) - blocks.unitsAloneAt(live, address) + size > settings[POOL]) {
                return FULL;
            }
            int old = blocks.indexAt(live, address);
            int oldSize = old == NOT_FOUND ? 0 : blocks.sizes[old];
            int liveUnits = blocks.unitsWhere(bit(live), 0, 0) - oldSize + size;
            if (quotas[volume] != 0 && liveUnits > quotas[volume]) {
                return OVER;
            }
            return time + 1;
        }

        void putBlock(int volume, int address, int size) {
            time++;
            blocks.releaseAt(LIVE + volume, address);
            blocks.append(time, size, address, LIVE + volume);
        }

        // Only where fewer than MOST_VOLUMES have come.
        int addVolume(int name, int origin) {
            int volume = volumesCome;
            volumesCome++;
            there |= bit(LIVE + volume);
            volumeNames[volume] = name;
            origins[volume] = origin;
            quotas[volume] = 0;
            if (origin != NOT_FOUND) {
                blocks.lend(origin, LIVE + volume);
            }
            return volume;
        }

        // Only where fewer than MOST_SNAPSHOTS have come.
        int addSnapshot(int name, int volume) {
            int snapshot = snapshotsCome;
            snapshotsCome++;
            time++;
            there |= bit(snapshot);
            snapshotNames[snapshot] = name;
            homes[snapshot] = volume;
            times[snapshot] = time;
            blocks.lend(LIVE + volume, snapshot);
            return snapshot;
        }

        // Only for a volume that has an origin.
        int moveOriginInto(int volume) {
            int origin = origins[volume];
            int other = homes[origin];
            int moved = rowAhead(origin) | bit(origin);
            for (int snapshot = 0; snapshot < MOST_SNAPSHOTS; snapshot++) {
                if (contains(moved, snapshot)) {
                    homes[snapshot] = volume;
                }
            }
            origins[volume] = origins[other];
            origins[other] = origin;
            return Integer.bitCount(moved);
        }

        int remove(int versions) {
            there &= ~versions;
            return blocks.release(versions);
        }

        int returnTo(int snapshot) {
            int live = LIVE + homes[snapshot];
            int behind = rowBehind(snapshot);
            there &= ~behind;
            int freed = blocks.release(behind | bit(live));
            blocks.lend(snapshot, live);
            return freed;
        }
    }

    // The stores as they were ahead of the latest changes, in a ring.
    private static final class History {
        private final Store[] kept = new Store[MOST_CHANGES];
        private int next = 0;
        int length = 0;

        History() {
            for (int i = 0; i < MOST_CHANGES; i++) {
                kept[i] = new Store();
            }
        }

        void keep(Store store) {
            kept[next].copyFrom(store);
            next = (next + 1) % MOST_CHANGES;
            length = Math.min(length + 1, MOST_CHANGES);
        }

        // Only where length is not 0.
        void giveBack(Store store) {
            next = (next + MOST_CHANGES - 1) % MOST_CHANGES;
            length--;
            store.copyFrom(kept[next]);
        }

        void forget() {
            length = 0;
        }
    }

    // Finds the fewest snapshots to destroy without trying all sets. Who has a block hangs together
    // by "the version ahead", and a snapshot that can be destroyed is no origin; so a block that only
    // such snapshots have is had by neighbours in the row of one volume. In a line of all of them,
    // volume by volume, a set thus frees what its runs of neighbours free, each run by itself.
    private static final class Planner {
        // Above any bit set of snapshots.
        private static final int UNIT = 1 << MOST_SNAPSHOTS;
        // Below the worth of any set.
        private static final int LEAST = -UNIT;

        private final int[] line = new int[MOST_SNAPSHOTS];
        private int length = 0;
        // best[i][n] is the worth of the best set of n snapshots among the first i of the line.
        private final int[][] best = new int[MOST_SNAPSHOTS + 1][MOST_SNAPSHOTS + 1];

        int smallestSet(Store store, int units) {
            lineUp(store);
            fillBest(store.blocks);
            for (int n = 1; n <= length; n++) {
                if (unitsIn(best[length][n]) >= units) {
                    return setIn(best[length][n]);
                }
            }
            return NOT_FOUND;
        }

        private void lineUp(Store store) {
            length = 0;
            for (int volume = 0; volume < MOST_VOLUMES; volume++) {
                int row = store.rowOf(volume);
                for (int snapshot = 0; snapshot < MOST_SNAPSHOTS; snapshot++) {
                    if (contains(row, snapshot) && store.canDestroy(snapshot) && length < MOST_SNAPSHOTS) {
                        line[length] = snapshot;
                        length++;
                    }
                }
            }
        }

        private void fillBest(Blocks blocks) {
            best[0][0] = 0;
            for (int i = 1; i <= length; i++) {
                for (int n = 0; n < i; n++) {
                    best[i][n] = best[i - 1][n];
                }
                best[i][i] = LEAST;
                int set = 0;
                for (int run = 1; run <= i; run++) {
                    set |= bit(line[i - run]);
                    improve(i, run, worth(blocks.unitsOnlyOf(set), set));
                }
            }
        }

        private void improve(int i, int run, int worthOfRun) {
            for (int n = run; n <= i; n++) {
                best[i][n] = Math.max(best[i][n], best[i - run][n - run] + worthOfRun);
            }
        }

        // More units are worth more, then a lower bit set; the worth of two sets without a common
        // snapshot and without a common block is the sum of theirs.
        private static int worth(int units, int set) {
            return units * UNIT - set;
        }

        private static int unitsIn(int worth) {
            return (worth + UNIT - 1) / UNIT;
        }

        private static int setIn(int worth) {
            return unitsIn(worth) * UNIT - worth;
        }
    }

    // Reads a text into a draft. The current token is that from start to stop; each method for a
    // statement begins at its first word and ends at the token behind its last one.
    private static final class Loader {
        private static final int END = 0, WORD = 1, INTEGER = 2, SEMICOLON = 3, OTHER = 4;
        // Above every range, and far below an overflow.
        private static final int TOO_MUCH = 1000000;

        final char[] text = new char[INPUT_SIZE];
        int filled = 0;
        final Store draft = new Store();
        int errorAt = NOT_FOUND;
        private int error = 0;
        private int length = 0;
        private int start = 0;
        private int stop = 0;
        private int kind = END;
        private int givenSettings = 0;

        void append(int four) {
            for (int shift = 24; shift >= 0 && filled < INPUT_SIZE; shift -= 8) {
                text[filled] = (char) (four >>> shift & 255);
                filled++;
            }
        }

        int read(int newLength) {
            length = Math.min(newLength, INPUT_SIZE);
            draft.reset();
            errorAt = NOT_FOUND;
            error = 0;
            stop = 0;
            givenSettings = 0;
            advance();
            int statements = 0;
            while (kind != END && statements < length) {
                if (!readStatement()) {
                    return error;
                }
                statements++;
            }
            return statements;
        }

        private boolean readStatement() {
            boolean fine;
            if (isWord("volume")) {
                fine = readVolume();
            } else if (isWord("write")) {
                fine = readWrite();
            } else if (isWord("trim")) {
                fine = readTrim();
            } else if (isWord("snap")) {
                fine = readSnap();
            } else if (isWord("clone")) {
                fine = readClone();
            } else if (isWord("hold")) {
                fine = readHold();
            } else if (isWord("set")) {
                fine = readSet();
            } else {
                fine = fail(SYNTAX_ERROR);
            }
            return fine && readEnd();
        }

        private boolean readVolume() {
            if (draft.volumesCome >= MOST_VOLUMES) {
                return fail(COUNT_ERROR);
            }
            advance();
            if (!expectNewVolumeName()) {
                return false;
            }
            draft.addVolume(nameCode(), NOT_FOUND);
            advance();
            return true;
        }

        private boolean readWrite() {
            advance();
            int volume = expectVolume();
            if (volume == NOT_FOUND) {
                return false;
            }
            advance();
            if (!expectInteger(0, ADDRESSES - 1)) {
                return false;
            }
            int address = integerValue();
            advance();
            if (!expectInteger(1, LARGEST_BLOCK)) {
                return false;
            }
            int size = integerValue();
            if (draft.writeAnswer(volume, address, size) < 0) {
                return fail(FULL_ERROR);
            }
            draft.putBlock(volume, address, size);
            advance();
            return true;
        }

        private boolean readTrim() {
            advance();
            int volume = expectVolume();
            if (volume == NOT_FOUND) {
                return false;
            }
            advance();
            if (!expectInteger(0, ADDRESSES - 1)) {
                return false;
            }
            draft.blocks.releaseAt(LIVE + volume, integerValue());
            advance();
            return true;
        }

        private boolean readSnap() {
            if (draft.snapshotsCome >= MOST_SNAPSHOTS) {
                return fail(COUNT_ERROR);
            }
            advance();
            int volume = expectVolume();
            if (volume == NOT_FOUND) {
                return false;
            }
            advance();
            if (!expectNewSnapshotName()) {
                return false;
            }
            draft.addSnapshot(nameCode(), volume);
            advance();
            return true;
        }

        private boolean readClone() {
            if (draft.volumesCome >= MOST_VOLUMES) {
                return fail(COUNT_ERROR);
            }
            advance();
            int snapshot = expectSnapshot();
            if (snapshot == NOT_FOUND) {
                return false;
            }
            if (!draft.canBeCloned(snapshot)) {
                return fail(COUNT_ERROR);
            }
            advance();
            if (!expectNewVolumeName()) {
                return false;
            }
            draft.addVolume(nameCode(), snapshot);
            advance();
            return true;
        }

        private boolean readHold() {
            advance();
            int snapshot = expectSnapshot();
            if (snapshot == NOT_FOUND) {
                return false;
            }
            if (contains(draft.heldSet, snapshot)) {
                return fail(DUPLICATE_ERROR);
            }
            draft.heldSet |= bit(snapshot);
            advance();
            return true;
        }

        private boolean readSet() {
            advance();
            if (!isWord("pool") && !isWord("clones")) {
                return fail(SYNTAX_ERROR);
            }
            int setting = isWord("pool") ? POOL : CLONES;
            if (contains(givenSettings, setting)) {
                return fail(DUPLICATE_ERROR);
            }
            givenSettings |= bit(setting);
            advance();
            if (!expectInteger(lowestValue(setting), highestValue(setting))) {
                return false;
            }
            draft.settings[setting] = integerValue();
            advance();
            return true;
        }

        private boolean readEnd() {
            if (kind != SEMICOLON) {
                return fail(SYNTAX_ERROR);
            }
            advance();
            return true;
        }

        private int expectVolume() {
            if (!expectName()) {
                return NOT_FOUND;
            }
            int volume = draft.volumeWithName(nameCode());
            if (volume == NOT_FOUND) {
                fail(NAME_ERROR);
            }
            return volume;
        }

        private int expectSnapshot() {
            if (!expectName()) {
                return NOT_FOUND;
            }
            int snapshot = draft.snapshotWithName(nameCode());
            if (snapshot == NOT_FOUND) {
                fail(NAME_ERROR);
            }
            return snapshot;
        }

        private boolean expectNewVolumeName() {
            if (!expectName()) {
                return false;
            }
            return draft.volumeWithName(nameCode()) == NOT_FOUND || fail(DUPLICATE_ERROR);
        }

        private boolean expectNewSnapshotName() {
            if (!expectName()) {
                return false;
            }
            return draft.snapshotWithName(nameCode()) == NOT_FOUND || fail(DUPLICATE_ERROR);
        }

        private boolean expectName() {
            return kind == WORD && stop - start <= NAME_LETTERS || fail(SYNTAX_ERROR);
        }

        private boolean expectInteger(int low, int high) {
            if (kind != INTEGER) {
                return fail(SYNTAX_ERROR);
            }
            int value = integerValue();
            return value >= low && value <= high || fail(RANGE_ERROR);
        }

        // Answers false, so that what it is called for can be left with its answer.
        private boolean fail(int code) {
            error = code;
            errorAt = start;
            return false;
        }

        private boolean isWord(String word) {
            if (kind != WORD || stop - start != word.length()) {
                return false;
            }
            for (int i = 0; i < word.length(); i++) {
                if (charAt(start + i) != word.charAt(i)) {
                    return false;
                }
            }
            return true;
        }

        private int nameCode() {
            int code = 0;
            for (int i = start; i < start + NAME_LETTERS; i++) {
                code = code << 5 | (i < stop ? charAt(i) - 'a' + 1 : 0);
            }
            return code;
        }

        private int integerValue() {
            int value = 0;
            for (int i = start; i < stop; i++) {
                value = Math.min(value * 10 + charAt(i) - '0', TOO_MUCH);
            }
            return value;
        }

        private void advance() {
            start = stop;
            while (start < length && (charAt(start) == ' ' || charAt(start) == '\n')) {
                start++;
            }
            kind = kindAt(start);
            stop = start < length ? start + 1 : length;
            if (kind == WORD || kind == INTEGER) {
                while (stop < length && kindAt(stop) == kind) {
                    stop++;
                }
            }
        }

        private int kindAt(int position) {
            if (position >= length) {
                return END;
            }
            char sign = charAt(position);
            if (sign >= 'a' && sign <= 'z') {
                return WORD;
            }
            if (sign >= '0' && sign <= '9') {
                return INTEGER;
            }
            return sign == ';' ? SEMICOLON : OTHER;
        }

        private char charAt(int position) {
            return position >= 0 && position < INPUT_SIZE ? text[position] : ' ';
        }
    }
}
