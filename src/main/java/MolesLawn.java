/** Moles against gardeners under a lawn of numbered tufts, as ../shared/DOC.md describes them. */
public final class MolesLawn {
    public static final int NONE = -1;

    private static final int TUFTS = 64;
    private static final int SIDE = 8;
    private static final int BESIDE = 8;
    private static final int MOLES = 4;
    private static final int PLAN = 20;
    private static final int SAVED = 6;
    private static final int BUFFER = 60;
    private static final int BEATS = 30;
    private static final int FORESIGHT = 100;
    // A step takes a direction off a plan, and each direction came by a call of its own: in the 512
    // calls of an object there are fewer steps than this, and each is in one tunnel or trail at most.
    private static final int STEPS = 512;
    // A trail grows by a step for one air at most, and is as short as can be when there is new air:
    // its first tuft, and 20 steps.
    private static final int TRAIL = 21;

    private static final int[] ROW_STEP = {-1, 0, 1, 0};
    private static final int[] COLUMN_STEP = {0, 1, 0, -1};
    private static final int[] ROW_BESIDE = {-1, -1, -1, 0, 0, 1, 1, 1};
    private static final int[] COLUMN_BESIDE = {-1, 0, 1, -1, 1, -1, 0, 1};

    private final Lawn lawn;
    private final Lawn snapshot;
    private final Lawn trial;
    private final Lawn[] saved;
    private final Text text;
    private final Survey survey;
    private final Paths paths;
    private boolean snapshotTaken;
    private int savedCount;

    public MolesLawn() {
        Rows spare = new Rows();
        lawn = new Lawn(spare);
        snapshot = new Lawn(spare);
        trial = new Lawn(spare);
        saved = new Lawn[SAVED];
        for (int i = 0; i < SAVED; i++) {
            saved[i] = new Lawn(spare);
        }
        text = new Text();
        survey = new Survey();
        paths = new Paths();
    }

    // ---- moles

    public int mole(int tuft) throws IndexOutOfBoundsException, IllegalStateException {
        checkTuft(tuft);
        if (lawn.moleCount >= MOLES || lawn.roots[tuft] > 0) {
            throw new IllegalStateException("four moles, or a root");
        }
        saveState();
        return lawn.welcome(tuft);
    }

    public int plan(int mole, int direction)
            throws IndexOutOfBoundsException, IllegalArgumentException, IllegalStateException {
        checkMole(mole);
        if (direction < 0 || direction > 3) {
            throw new IllegalArgumentException("no such direction");
        }
        if (lawn.moles[mole].planned >= PLAN) {
            throw new IllegalStateException("the plan is full");
        }
        saveState();
        lawn.moles[mole].addDirection(direction);
        return lawn.moles[mole].planned;
    }

    public int rest(int mole) throws IndexOutOfBoundsException {
        checkMole(mole);
        saveState();
        int before = lawn.moles[mole].planned;
        lawn.moles[mole].planned = 0;
        return before;
    }

    public int pass(int beats) throws IllegalArgumentException {
        checkBeats(beats);
        saveState();
        int before = lawn.risen;
        for (int i = 0; i < beats; i++) {
            lawn.beat();
        }
        return lawn.risen - before;
    }

    // ---- gardeners

    public int root(int tuft, int strength) throws IndexOutOfBoundsException, IllegalArgumentException {
        checkTuft(tuft);
        if (strength < 0 || strength > 9) {
            throw new IllegalArgumentException("no such strength");
        }
        saveState();
        int before = lawn.roots[tuft];
        lawn.roots[tuft] = strength;
        return before;
    }

    public int trap(int tuft, int wait)
            throws IndexOutOfBoundsException, IllegalArgumentException, IllegalStateException {
        checkTuft(tuft);
        if (wait < 0 || wait > 20) {
            throw new IllegalArgumentException("no such wait");
        }
        if (lawn.traps[tuft] != NONE) {
            throw new IllegalStateException("a trap is there");
        }
        saveState();
        lawn.traps[tuft] = wait;
        return lawn.trapCount();
    }

    public int dig(int tuft) throws IndexOutOfBoundsException {
        checkTuft(tuft);
        saveState();
        return lawn.digUp(tuft);
    }

    public int rake(int tuft) throws IndexOutOfBoundsException, IllegalStateException {
        checkTuft(tuft);
        if (!lawn.mounds[tuft] || lawn.trailBeginsAt(tuft)) {
            throw new IllegalStateException("no mound, or a trail begins there");
        }
        saveState();
        return lawn.rakeOff(tuft);
    }

    public int set(int air) throws IllegalArgumentException {
        if (air < 2 || air > 20) {
            throw new IllegalArgumentException("no such air");
        }
        saveState();
        int before = lawn.fullAir;
        lawn.setFullAir(air);
        return before;
    }

    // ---- texts

    public int append(int code) throws IllegalArgumentException, IllegalStateException {
        if (code < 33 || code > 126) {
            throw new IllegalArgumentException("no such character");
        }
        if (text.length >= BUFFER) {
            throw new IllegalStateException("the buffer is full");
        }
        text.put(code);
        return text.length;
    }

    public int clearBuffer() {
        int before = text.length;
        text.length = 0;
        return before;
    }

    public int firstError() {
        return text.firstFault();
    }

    public int plans() throws IllegalArgumentException {
        if (!text.isComplete()) {
            throw new IllegalArgumentException("not complete plans");
        }
        saveState();
        int put = 0;
        int mole = NONE;
        for (int i = 0; i < text.length; i++) {
            int direction = Text.directionOf(text.codes[i]);
            if (text.codes[i] >= '0' && text.codes[i] <= '3') {
                mole = text.codes[i] - '0';
            } else if (direction != NONE && lawn.hasRoomInPlan(mole)) {
                lawn.moles[mole].addDirection(direction);
                put++;
            }
        }
        text.length = 0;
        return put;
    }

    // ---- undo, the snapshot

    public int undo() throws IllegalStateException {
        if (savedCount <= 0) {
            throw new IllegalStateException("no saved state");
        }
        savedCount--;
        lawn.copyFrom(saved[savedCount]);
        return savedCount;
    }

    public int keep() {
        snapshot.copyFrom(lawn);
        snapshotTaken = true;
        return lawn.tunnels.size;
    }

    public int restore() throws IllegalStateException {
        if (!snapshotTaken) {
            throw new IllegalStateException("no snapshot");
        }
        saveState();
        lawn.copyFrom(snapshot);
        return lawn.tunnels.size;
    }

    // ---- looks; nothing is changed

    public int tuft(int tuft, int what) throws IndexOutOfBoundsException, IllegalArgumentException {
        checkTuft(tuft);
        checkWhat(what, 8);
        survey.read(lawn);
        return numberOfTuft(tuft, what);
    }

    public int moleOf(int mole, int what) throws IndexOutOfBoundsException, IllegalArgumentException {
        checkMole(mole);
        checkWhat(what, 6);
        return lawn.moles[mole].number(what);
    }

    public int tunnel(int tunnel, int what) throws IndexOutOfBoundsException, IllegalArgumentException {
        checkTunnel(tunnel);
        checkWhat(what, 2);
        return lawn.tunnels.number(tunnel, what);
    }

    public int cell(int tunnel, int place) throws IndexOutOfBoundsException, IllegalArgumentException {
        checkTunnel(tunnel);
        if (place < 0) {
            throw new IllegalArgumentException("no such place");
        }
        return lawn.tunnels.at(tunnel, place);
    }

    public int count(int what) throws IllegalArgumentException {
        checkWhat(what, 14);
        survey.read(lawn);
        return numberOfAll(what);
    }

    // ---- what would be; nothing is changed

    public int joined(int tuft, int other) throws IndexOutOfBoundsException {
        checkTuft(tuft);
        checkTuft(other);
        paths.measure(lawn, tuft);
        return paths.distance[other] == NONE ? 0 : 1;
    }

    public int fewest(int tuft, int other) throws IndexOutOfBoundsException {
        checkTuft(tuft);
        checkTuft(other);
        paths.measure(lawn, tuft);
        return paths.distance[other];
    }

    public int ifDug(int tuft, int what) throws IndexOutOfBoundsException, IllegalArgumentException {
        checkTuft(tuft);
        checkWhat(what, 2);
        trial.copyFrom(lawn);
        int caught = trial.digUp(tuft);
        if (what == 0) {
            return trial.fallen - lawn.fallen;
        }
        if (what == 1) {
            return caught;
        }
        survey.read(trial);
        return survey.hollowCount();
    }

    public int bestDig() {
        survey.read(lawn);
        return mostCrossed();
    }

    public int ifPassed(int beats, int what) throws IllegalArgumentException {
        checkBeats(beats);
        checkWhat(what, 2);
        tryBeats(beats);
        return numberOfTrial(what);
    }

    public int nextMound() {
        return beatsToMound();
    }

    public double hollowShare() {
        survey.read(lawn);
        return (double) survey.hollowCount() / 64.0;
    }

    public long digest() {
        survey.read(lawn);
        long hash = 3631;
        for (int what = 0; what <= 14; what++) {
            hash = 31 * hash + numberOfAll(what);
        }
        hash = hashTufts(hash);
        hash = hashMoles(hash);
        hash = hashTunnels(hash);
        hash = hashPaths(hash);
        hash = hashDigging(hash);
        tryBeats(5);
        for (int what = 0; what <= 2; what++) {
            hash = 31 * hash + numberOfTrial(what);
        }
        hash = 31 * hash + beatsToMound();
        hash = 31 * hash + bitsOfShare(survey.hollowCount());
        hash = 31 * hash + text.length;
        for (int i = 0; i < text.length; i++) {
            hash = 31 * hash + text.codes[i];
        }
        return hash;
    }

    // ---- the checks

    private void checkTuft(int tuft) {
        if (tuft < 0 || tuft >= TUFTS) {
            throw new IndexOutOfBoundsException("no such tuft");
        }
    }

    private void checkMole(int mole) {
        if (mole < 0 || mole >= lawn.moleCount) {
            throw new IndexOutOfBoundsException("no such mole");
        }
    }

    private void checkTunnel(int tunnel) {
        if (tunnel < 0 || tunnel >= lawn.tunnels.size) {
            throw new IndexOutOfBoundsException("no such tunnel");
        }
    }

    private void checkBeats(int beats) {
        if (beats < 1 || beats > BEATS) {
            throw new IllegalArgumentException("so many beats cannot pass");
        }
    }

    private void checkWhat(int what, int last) {
        if (what < 0 || what > last) {
            throw new IllegalArgumentException("no such number");
        }
    }

    // ---- what the calls share

    private void saveState() {
        if (savedCount >= SAVED) {
            Lawn oldest = saved[0];
            for (int i = 1; i < SAVED; i++) {
                saved[i - 1] = saved[i];
            }
            saved[SAVED - 1] = oldest;
            savedCount = SAVED - 1;
        }
        saved[savedCount].copyFrom(lawn);
        savedCount++;
    }

    // The survey must have been read from the lawn before.
    private int numberOfTuft(int tuft, int what) {
        switch (what) {
            case 0: return lawn.mounds[tuft] ? 1 : 0;
            case 1: return lawn.roots[tuft];
            case 2: return lawn.traps[tuft];
            case 3: return survey.hollow[tuft];
            case 4: return survey.countBeside(survey.hollow, tuft, 1);
            case 5: return lawn.opened[tuft] ? 1 : 0;
            case 6: return survey.sure[tuft];
            case 7: return survey.crossings[tuft];
            default: return lawn.molesAt(tuft);
        }
    }

    // The survey must have been read from the lawn before.
    private int numberOfAll(int what) {
        switch (what) {
            case 0: return lawn.beats;
            case 1: return lawn.moleCount;
            case 2: return lawn.caught;
            case 3: return lawn.moundCount();
            case 4: return lawn.tunnels.size;
            case 5: return survey.hollowCount();
            case 6: return lawn.openedCount();
            case 7: return lawn.trapCount();
            case 8: return lawn.rootCount();
            case 9: return lawn.gnawed;
            case 10: return lawn.risen;
            case 11: return lawn.fallen;
            case 12: return paths.groupCount(lawn);
            case 13: return lawn.fullAir;
            default: return savedCount;
        }
    }

    private int mostCrossed() {
        int best = NONE;
        int most = 0;
        for (int t = 0; t < TUFTS; t++) {
            if (!lawn.opened[t] && survey.crossings[t] > most) {
                most = survey.crossings[t];
                best = t;
            }
        }
        return best;
    }

    private void tryBeats(int beats) {
        trial.copyFrom(lawn);
        for (int i = 0; i < beats; i++) {
            trial.beat();
        }
    }

    private int numberOfTrial(int what) {
        switch (what) {
            case 0: return trial.risen - lawn.risen;
            case 1: return trial.tunnels.size;
            default: return trial.caught - lawn.caught;
        }
    }

    private int beatsToMound() {
        trial.copyFrom(lawn);
        for (int beat = 1; beat <= FORESIGHT && trial.hasPlans(); beat++) {
            trial.beat();
            if (trial.risen > lawn.risen) {
                return beat;
            }
        }
        return NONE;
    }

    // ---- the parts of the digest

    private long hashTufts(long start) {
        long hash = start;
        for (int t = 0; t < TUFTS; t++) {
            for (int what = 0; what <= 8; what++) {
                hash = 31 * hash + numberOfTuft(t, what);
            }
        }
        return hash;
    }

    private long hashMoles(long start) {
        long hash = start;
        for (int i = 0; i < lawn.moleCount; i++) {
            for (int what = 0; what <= 6; what++) {
                hash = 31 * hash + lawn.moles[i].number(what);
            }
        }
        return hash;
    }

    private long hashTunnels(long start) {
        long hash = start;
        Rows tunnels = lawn.tunnels;
        for (int k = 0; k < tunnels.size; k++) {
            for (int what = 0; what <= 2; what++) {
                hash = 31 * hash + tunnels.number(k, what);
            }
            int length = tunnels.number(k, 2);
            for (int i = 0; i < length; i++) {
                hash = 31 * hash + tunnels.at(k, i);
            }
        }
        return hash;
    }

    private long hashPaths(long start) {
        long hash = start;
        int lowest = lawn.lowestMound();
        if (lowest == NONE) {
            return hash;
        }
        paths.measure(lawn, lowest);
        for (int t = 0; t < TUFTS; t++) {
            if (lawn.mounds[t]) {
                hash = 31 * hash + paths.distance[t];
            }
        }
        return hash;
    }

    private long hashDigging(long start) {
        long hash = start;
        for (int t = 0; t < TUFTS; t++) {
            // Digging lets just those tunnels fall in in which the tuft occurs.
            hash = 31 * hash + survey.crossings[t];
        }
        return 31 * hash + mostCrossed();
    }

    // The bits of hollow / 64 as a double: the library that we may use has no call for them.
    private static long bitsOfShare(int hollow) {
        if (hollow <= 0) {
            return 0L;
        }
        int power = 0;
        while (power < 30 && hollow >> (power + 1) != 0) {
            power++;
        }
        long fraction = (long) hollow - (1L << power);
        long exponent = 1023 + power - 6;
        return (exponent << 52) | (fraction << (52 - power));
    }

    // ---- the geometry

    private static int tuftAt(int row, int column) {
        if (row < 0 || row >= SIDE || column < 0 || column >= SIDE) {
            return NONE;
        }
        return row * SIDE + column;
    }

    private static int stepFrom(int tuft, int direction) {
        if (direction < 0 || direction > 3) {
            return NONE;
        }
        return tuftAt(tuft / SIDE + ROW_STEP[direction], tuft % SIDE + COLUMN_STEP[direction]);
    }

    private static int neighbour(int tuft, int place) {
        if (place < 0 || place >= BESIDE) {
            return NONE;
        }
        return tuftAt(tuft / SIDE + ROW_BESIDE[place], tuft % SIDE + COLUMN_BESIDE[place]);
    }

    /** Rows of tufts, one behind the other in one array. */
    private static final class Rows {
        final int[] cells = new int[2 * STEPS];
        // The place behind the last cell of each row.
        final int[] ends = new int[STEPS];
        int used;
        int size;

        void empty() {
            used = 0;
            size = 0;
        }

        void copyFrom(Rows other) {
            used = other.used;
            size = other.size;
            System.arraycopy(other.cells, 0, cells, 0, used);
            System.arraycopy(other.ends, 0, ends, 0, size);
        }

        int from(int row) {
            return row > 0 && row <= size ? ends[row - 1] : 0;
        }

        int to(int row) {
            return row >= 0 && row < size ? ends[row] : 0;
        }

        int at(int row, int place) {
            return place >= 0 && place < to(row) - from(row) ? cells[from(row) + place] : NONE;
        }

        int first(int row) {
            return at(row, 0);
        }

        int last(int row) {
            return at(row, to(row) - from(row) - 1);
        }

        int number(int row, int what) {
            switch (what) {
                case 0: return first(row);
                case 1: return last(row);
                default: return to(row) - from(row);
            }
        }

        // The index in the cells, not the place in the row; NONE if the tuft does not occur.
        int firstIndex(int row, int tuft) {
            int end = to(row);
            for (int i = from(row); i < end; i++) {
                if (cells[i] == tuft) {
                    return i;
                }
            }
            return NONE;
        }

        int lastIndex(int row, int tuft) {
            int start = from(row);
            for (int i = to(row) - 1; i >= start; i--) {
                if (cells[i] == tuft) {
                    return i;
                }
            }
            return NONE;
        }

        boolean endsAt(int row, int tuft) {
            return first(row) == tuft || last(row) == tuft;
        }

        int otherEnd(int row, int tuft) {
            return first(row) == tuft ? last(row) : first(row);
        }

        int endingAt(int tuft, int lowest) {
            for (int k = lowest; k < size; k++) {
                if (endsAt(k, tuft)) {
                    return k;
                }
            }
            return NONE;
        }

        void put(int tuft) {
            if (used < cells.length) {
                cells[used] = tuft;
                used++;
            }
        }

        void close() {
            if (size < ends.length) {
                ends[size] = used;
                size++;
            }
        }

        void addRow(int[] source, int from, int to) {
            int length = to - from;
            if (from < 0 || length < 0 || to > source.length
                    || size >= ends.length || length > cells.length - used) {
                return;
            }
            System.arraycopy(source, from, cells, used, length);
            used += length;
            ends[size] = used;
            size++;
        }
    }

    /** A mole with its plan and its trail. */
    private static final class Mole {
        final int[] directions = new int[PLAN];
        final int[] trail = new int[TRAIL];
        int planned;
        int trailLength = 1;
        int air;
        int steps;
        // Only while a gardener digs: its trail went through the dug tuft.
        boolean lost;

        void copyFrom(Mole other) {
            planned = other.planned;
            trailLength = other.trailLength;
            air = other.air;
            steps = other.steps;
            System.arraycopy(other.directions, 0, directions, 0, planned);
            System.arraycopy(other.trail, 0, trail, 0, trailLength);
        }

        int place() {
            return trail[trailLength - 1];
        }

        int number(int what) {
            switch (what) {
                case 0: return place();
                case 1: return air;
                case 2: return planned;
                case 3: return planned > 0 ? directions[0] : NONE;
                case 4: return trail[0];
                case 5: return trailLength;
                default: return steps;
            }
        }

        void addDirection(int direction) {
            if (planned < PLAN) {
                directions[planned] = direction;
                planned++;
            }
        }

        void dropDirection() {
            for (int i = 1; i < planned; i++) {
                directions[i - 1] = directions[i];
            }
            planned = planned > 0 ? planned - 1 : 0;
        }

        void beginTrail(int tuft) {
            trail[0] = tuft;
            trailLength = 1;
        }

        void go(int tuft) {
            steps++;
            if (trailLength < TRAIL) {
                trailLength++;
            }
            trail[trailLength - 1] = tuft;
        }

        int firstIndex(int tuft) {
            for (int i = 0; i < trailLength; i++) {
                if (trail[i] == tuft) {
                    return i;
                }
            }
            return NONE;
        }

        void dropBeforeLast(int tuft) {
            int last = trailLength - 1;
            while (last > 0 && trail[last] != tuft) {
                last--;
            }
            trailLength -= last;
            for (int i = 0; i < trailLength; i++) {
                trail[i] = trail[i + last];
            }
        }
    }

    /** All that undo brings back. */
    private static final class Lawn {
        final boolean[] mounds = new boolean[TUFTS];
        final boolean[] opened = new boolean[TUFTS];
        final int[] roots = new int[TUFTS];
        final int[] traps = new int[TUFTS];
        final Rows tunnels = new Rows();
        final Rows spare;
        final Mole[] moles = new Mole[MOLES];
        int moleCount;
        int fullAir = 6;
        int beats;
        int caught;
        int gnawed;
        int risen;
        int fallen;

        // The spare rows hold nothing between two calls, so that all lawns can share them.
        Lawn(Rows spareRows) {
            spare = spareRows;
            for (int t = 0; t < TUFTS; t++) {
                traps[t] = NONE;
            }
            for (int i = 0; i < MOLES; i++) {
                moles[i] = new Mole();
            }
        }

        void copyFrom(Lawn other) {
            for (int t = 0; t < TUFTS; t++) {
                mounds[t] = other.mounds[t];
                opened[t] = other.opened[t];
            }
            System.arraycopy(other.roots, 0, roots, 0, TUFTS);
            System.arraycopy(other.traps, 0, traps, 0, TUFTS);
            tunnels.copyFrom(other.tunnels);
            moleCount = other.moleCount;
            for (int i = 0; i < moleCount; i++) {
                moles[i].copyFrom(other.moles[i]);
            }
            fullAir = other.fullAir;
            beats = other.beats;
            caught = other.caught;
            gnawed = other.gnawed;
            risen = other.risen;
            fallen = other.fallen;
        }

        int moundCount() {
            int found = 0;
            for (int t = 0; t < TUFTS; t++) {
                found += mounds[t] ? 1 : 0;
            }
            return found;
        }

        int openedCount() {
            int found = 0;
            for (int t = 0; t < TUFTS; t++) {
                found += opened[t] ? 1 : 0;
            }
            return found;
        }

        int rootCount() {
            int found = 0;
            for (int t = 0; t < TUFTS; t++) {
                found += roots[t] > 0 ? 1 : 0;
            }
            return found;
        }

        int trapCount() {
            int found = 0;
            for (int t = 0; t < TUFTS; t++) {
                found += traps[t] != NONE ? 1 : 0;
            }
            return found;
        }

        int lowestMound() {
            for (int t = 0; t < TUFTS; t++) {
                if (mounds[t]) {
                    return t;
                }
            }
            return NONE;
        }

        int molesAt(int tuft) {
            int found = 0;
            for (int i = 0; i < moleCount; i++) {
                found += moles[i].place() == tuft ? 1 : 0;
            }
            return found;
        }

        boolean trailBeginsAt(int tuft) {
            for (int i = 0; i < moleCount; i++) {
                if (moles[i].trail[0] == tuft) {
                    return true;
                }
            }
            return false;
        }

        boolean hasRoomInPlan(int mole) {
            return mole >= 0 && mole < moleCount && moles[mole].planned < PLAN;
        }

        boolean hasPlans() {
            for (int i = 0; i < moleCount; i++) {
                if (moles[i].planned > 0) {
                    return true;
                }
            }
            return false;
        }

        void setFullAir(int air) {
            fullAir = air;
            for (int i = 0; i < moleCount; i++) {
                moles[i].air = Math.min(moles[i].air, air);
            }
        }

        int welcome(int tuft) {
            if (moleCount >= MOLES) {
                return NONE;
            }
            ensureMound(tuft);
            Mole mole = moles[moleCount];
            mole.beginTrail(tuft);
            mole.planned = 0;
            mole.air = fullAir;
            mole.steps = 0;
            moleCount++;
            return moleCount - 1;
        }

        void ensureMound(int tuft) {
            if (mounds[tuft]) {
                return;
            }
            mounds[tuft] = true;
            risen++;
            splitTunnels(tuft);
            for (int i = 0; i < moleCount; i++) {
                Mole mole = moles[i];
                int first = mole.firstIndex(tuft);
                // A trail that digging cut down to its last tuft has it at 0, and gives no tunnel.
                if (first > 0) {
                    tunnels.addRow(mole.trail, 0, first + 1);
                    mole.dropBeforeLast(tuft);
                }
            }
        }

        void splitTunnels(int tuft) {
            spare.empty();
            for (int k = 0; k < tunnels.size; k++) {
                int first = tunnels.firstIndex(k, tuft);
                if (first == NONE) {
                    spare.addRow(tunnels.cells, tunnels.from(k), tunnels.to(k));
                } else {
                    spare.addRow(tunnels.cells, tunnels.from(k), first + 1);
                    spare.addRow(tunnels.cells, tunnels.lastIndex(k, tuft), tunnels.to(k));
                }
            }
            tunnels.copyFrom(spare);
        }

        // A caught mole's object goes behind the living ones, to be used again.
        void catchMole(int index) {
            Mole gone = moles[index];
            moleCount--;
            for (int i = index; i < moleCount; i++) {
                moles[i] = moles[i + 1];
            }
            moles[moleCount] = gone;
            caught++;
        }

        void beat() {
            beats++;
            for (int t = 0; t < TUFTS; t++) {
                if (traps[t] > 0) {
                    traps[t]--;
                }
            }
            int next = 0;
            for (int turns = moleCount; turns > 0; turns--) {
                if (next < moleCount && staysAfterTurn(next)) {
                    next++;
                }
            }
        }

        boolean staysAfterTurn(int index) {
            Mole mole = moles[index];
            if (mole.planned == 0) {
                return true;
            }
            int there = stepFrom(mole.place(), mole.directions[0]);
            if (there == NONE) {
                mole.dropDirection();
                return true;
            }
            mole.air--;
            if (roots[there] > 0) {
                roots[there]--;
                gnawed++;
            } else {
                mole.dropDirection();
                mole.go(there);
                int wait = traps[there];
                traps[there] = NONE;
                if (wait == 0) {
                    catchMole(index);
                    return false;
                }
                if (mounds[there]) {
                    finishTrail(mole);
                    return true;
                }
            }
            if (mole.air <= 0) {
                ensureMound(mole.place());
                mole.air = fullAir;
            }
            return true;
        }

        void finishTrail(Mole mole) {
            int last = mole.place();
            int first = mole.firstIndex(last);
            if (first > 0) {
                tunnels.addRow(mole.trail, 0, first + 1);
            }
            mole.beginTrail(last);
            mole.air = fullAir;
        }

        int digUp(int tuft) {
            opened[tuft] = true;
            roots[tuft] = 0;
            traps[tuft] = NONE;
            int before = caught;
            for (int i = moleCount - 1; i >= 0; i--) {
                if (moles[i].place() == tuft) {
                    catchMole(i);
                }
            }
            mounds[tuft] = false;
            dropTunnels(tuft);
            dropTrails(tuft);
            return caught - before;
        }

        void dropTunnels(int tuft) {
            int before = tunnels.size;
            spare.empty();
            for (int k = 0; k < tunnels.size; k++) {
                if (tunnels.firstIndex(k, tuft) == NONE) {
                    spare.addRow(tunnels.cells, tunnels.from(k), tunnels.to(k));
                }
            }
            tunnels.copyFrom(spare);
            fallen += before - tunnels.size;
        }

        void dropTrails(int tuft) {
            for (int i = 0; i < moleCount; i++) {
                Mole mole = moles[i];
                mole.lost = mole.firstIndex(tuft) != NONE;
                if (mole.lost) {
                    mole.beginTrail(mole.place());
                }
            }
            for (int i = 0; i < moleCount; i++) {
                Mole mole = moles[i];
                if (mole.lost) {
                    mole.lost = false;
                    ensureMound(mole.place());
                    mole.air = fullAir;
                }
            }
        }

        int rakeOff(int tuft) {
            int before = tunnels.size;
            mounds[tuft] = false;
            int one = tunnels.endingAt(tuft, 0);
            int two = one == NONE ? NONE : tunnels.endingAt(tuft, one + 1);
            boolean justTwo = two != NONE && tunnels.endingAt(tuft, two + 1) == NONE;
            if (justTwo && tunnels.otherEnd(one, tuft) != tunnels.otherEnd(two, tuft)) {
                joinTunnels(one, two, tuft);
            } else {
                // At a mound tunnels only end: those in which it occurs are those that ended there.
                dropTunnels(tuft);
            }
            return before - tunnels.size;
        }

        void joinTunnels(int one, int two, int tuft) {
            spare.empty();
            for (int k = 0; k < tunnels.size; k++) {
                if (k == one) {
                    putJoined(one, two, tuft);
                } else if (k != two) {
                    spare.addRow(tunnels.cells, tunnels.from(k), tunnels.to(k));
                }
            }
            tunnels.copyFrom(spare);
        }

        void putJoined(int one, int two, int tuft) {
            int length = tunnels.number(one, 2);
            boolean forward = tunnels.last(one) == tuft;
            for (int i = 0; i < length; i++) {
                spare.put(tunnels.at(one, forward ? i : length - 1 - i));
            }
            length = tunnels.number(two, 2);
            forward = tunnels.first(two) == tuft;
            for (int i = 1; i < length; i++) {
                spare.put(tunnels.at(two, forward ? i : length - 1 - i));
            }
            spare.close();
        }
    }

    /** What can be seen of the tufts of a lawn. */
    private static final class Survey {
        final int[] hollow = new int[TUFTS];
        final int[] crossings = new int[TUFTS];
        final int[] sure = new int[TUFTS];
        private final int[] seenBy = new int[TUFTS];

        void read(Lawn lawn) {
            for (int t = 0; t < TUFTS; t++) {
                hollow[t] = 0;
                crossings[t] = 0;
                seenBy[t] = NONE;
            }
            for (int k = 0; k < lawn.tunnels.size; k++) {
                readTunnel(lawn.tunnels, k);
            }
            for (int i = 0; i < lawn.moleCount; i++) {
                readTrail(lawn.moles[i]);
            }
            findSure(lawn);
        }

        private void readTunnel(Rows tunnels, int number) {
            int end = tunnels.to(number);
            for (int i = tunnels.from(number); i < end; i++) {
                int tuft = tunnels.cells[i];
                if (seenBy[tuft] != number) {
                    seenBy[tuft] = number;
                    crossings[tuft]++;
                    hollow[tuft] = 1;
                }
            }
        }

        private void readTrail(Mole mole) {
            for (int i = 0; i < mole.trailLength; i++) {
                hollow[mole.trail[i]] = 1;
            }
        }

        int hollowCount() {
            int found = 0;
            for (int t = 0; t < TUFTS; t++) {
                found += hollow[t];
            }
            return found;
        }

        int countBeside(int[] marks, int tuft, int mark) {
            int found = 0;
            for (int i = 0; i < BESIDE; i++) {
                int other = neighbour(tuft, i);
                if (other != NONE && marks[other] == mark) {
                    found++;
                }
            }
            return found;
        }

        private void findSure(Lawn lawn) {
            for (int t = 0; t < TUFTS; t++) {
                sure[t] = lawn.opened[t] ? hollow[t] : NONE;
            }
            boolean found = true;
            // Each round but the last makes one more tuft sure at least.
            for (int round = 0; found && round <= TUFTS; round++) {
                found = false;
                for (int t = 0; t < TUFTS; t++) {
                    if (lawn.opened[t] && concludeAt(t)) {
                        found = true;
                    }
                }
            }
        }

        private boolean concludeAt(int tuft) {
            int unknown = countBeside(sure, tuft, NONE);
            if (unknown == 0) {
                return false;
            }
            int number = countBeside(hollow, tuft, 1);
            int sureHollow = countBeside(sure, tuft, 1);
            if (sureHollow == number) {
                markUnknownBeside(tuft, 0);
                return true;
            }
            if (sureHollow + unknown == number) {
                markUnknownBeside(tuft, 1);
                return true;
            }
            return false;
        }

        private void markUnknownBeside(int tuft, int mark) {
            for (int i = 0; i < BESIDE; i++) {
                int other = neighbour(tuft, i);
                if (other != NONE && sure[other] == NONE) {
                    sure[other] = mark;
                }
            }
        }
    }

    /** How mounds are joined by the tunnels of a lawn. */
    private static final class Paths {
        final int[] distance = new int[TUFTS];
        private final int[] group = new int[TUFTS];

        // NONE for all that are not joined with the start, and for all if it has no mound.
        void measure(Lawn lawn, int start) {
            for (int t = 0; t < TUFTS; t++) {
                distance[t] = NONE;
            }
            if (!lawn.mounds[start]) {
                return;
            }
            distance[start] = 0;
            boolean found = true;
            for (int far = 0; found && far < TUFTS; far++) {
                found = false;
                for (int k = 0; k < lawn.tunnels.size; k++) {
                    int first = lawn.tunnels.first(k);
                    int last = lawn.tunnels.last(k);
                    if (isTuft(first) && isTuft(last) && reach(first, last, far)) {
                        found = true;
                    }
                }
            }
        }

        private boolean reach(int first, int last, int far) {
            if (distance[first] == far && distance[last] == NONE) {
                distance[last] = far + 1;
                return true;
            }
            if (distance[last] == far && distance[first] == NONE) {
                distance[first] = far + 1;
                return true;
            }
            return false;
        }

        int groupCount(Lawn lawn) {
            for (int t = 0; t < TUFTS; t++) {
                group[t] = t;
            }
            int groups = lawn.moundCount();
            for (int k = 0; k < lawn.tunnels.size; k++) {
                int first = lawn.tunnels.first(k);
                int last = lawn.tunnels.last(k);
                if (isTuft(first) && isTuft(last) && group[first] != group[last]) {
                    uniteGroups(group[first], group[last]);
                    groups--;
                }
            }
            return groups;
        }

        private void uniteGroups(int one, int two) {
            for (int t = 0; t < TUFTS; t++) {
                if (group[t] == two) {
                    group[t] = one;
                }
            }
        }

        private static boolean isTuft(int number) {
            return number >= 0 && number < TUFTS;
        }
    }

    /** The buffer, and what it says. */
    private static final class Text {
        private static final int AT_MOLE = 0;
        private static final int AT_COLON = 1;
        private static final int AT_FIRST = 2;
        private static final int AT_MORE = 3;

        final int[] codes = new int[BUFFER];
        int length;

        void put(int code) {
            if (length < BUFFER) {
                codes[length] = code;
                length++;
            }
        }

        static int directionOf(int code) {
            switch (code) {
                case 'n': return 0;
                case 'e': return 1;
                case 's': return 2;
                case 'w': return 3;
                default: return NONE;
            }
        }

        // What is due behind a character; NONE if the character is an error.
        private static int dueBehind(int due, int code) {
            switch (due) {
                case AT_MOLE: return code >= '0' && code <= '3' ? AT_COLON : NONE;
                case AT_COLON: return code == ':' ? AT_FIRST : NONE;
                case AT_FIRST: return directionOf(code) != NONE ? AT_MORE : NONE;
                default: return code == ';' ? AT_MOLE : directionOf(code) != NONE ? AT_MORE : NONE;
            }
        }

        int firstFault() {
            int due = AT_MOLE;
            for (int i = 0; i < length; i++) {
                due = dueBehind(due, codes[i]);
                if (due == NONE) {
                    return i;
                }
            }
            return length;
        }

        boolean isComplete() {
            int due = AT_MOLE;
            for (int i = 0; i < length && due != NONE; i++) {
                due = dueBehind(due, codes[i]);
            }
            return due == AT_MORE;
        }
    }
}
