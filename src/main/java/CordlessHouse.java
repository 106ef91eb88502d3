/**
 * A house of cordless telephones: cells and portables on shared channels, calls between
 * portables, and the exchange that carries their voice. ../shared/DOC.md tells its promises.
 */
public final class CordlessHouse {
    private static final int MOST_CELLS = 4;
    private static final int MOST_PORTABLES = 8;
    private static final int MOST_BEARERS = 2 * MOST_PORTABLES;
    private static final int PLACES = 16;
    private static final int CARRIERS = 10;
    private static final int CHANNELS = 120;
    private static final int ALL_CELLS = 15;

    private static final int NOBODY = -1;
    private static final int STATE = -2;
    private static final int NOT_ENTERED = -3;
    private static final int BELOW = -4;
    private static final int ABOVE = -6;
    private static final int NONE = -9;

    private static final int IDLE = 0;
    private static final int CALLING = 1;
    private static final int PROVING = 2;
    private static final int WAITING = 3;
    private static final int PAGED = 4;
    private static final int PROVING_PAGED = 5;
    private static final int RINGING = 6;
    private static final int ACTIVE = 7;

    private static final int SET_UP_EVERY = 4;
    private static final int TOO_DISTURBED = 4;
    private static final int NOISE_LEVEL = 4;
    private static final int FAILS_TO_HAND_OVER = 3;
    private static final int FAILS_TO_DROP = 8;
    private static final int LONGEST_WAIT = 200;
    private static final int MOST_FRAMES = 1000;
    private static final int LAST_TIME = 100000;
    private static final int DOWNWARD = 1000000;

    private static final int MOST_SAID = 8;
    private static final int MOST_AT_EXCHANGE = 16;
    private static final int MOST_KEPT = 20;

    private static final long MIX_NUMBER = 7046029254386353131L;
    private static final long MIX_FACTOR = -4658895280553007687L;
    private static final int MIX_SHIFT = 29;

    private final Radio radio = new Radio();
    private final Portable[] portables = new Portable[MOST_PORTABLES];
    private final int[] refusals = new int[7];
    private int time;
    private int callsActive;
    private int callsEnded;
    private int handovers;
    private int blocksUp;
    private int blocksHeard;
    private long airUp;
    private long airDown;

    public CordlessHouse() {
    }

    public int cell(int channel) {
        if (!isChannel(channel)) {
            return refuse(NOBODY);
        }
        if (radio.cellCount >= MOST_CELLS) {
            return refuse(ABOVE);
        }
        return radio.addCell(channel);
    }

    public int portable(int place, long key) {
        if (!isPlace(place)) {
            return refuse(NOBODY);
        }
        if (radio.portableCount >= MOST_PORTABLES) {
            return refuse(ABOVE);
        }
        int number = radio.addPortable(place);
        portables[number] = new Portable(number, key);
        return number;
    }

    public int reach(int place, int cells) {
        if (!isPlace(place)) {
            return refuse(NOBODY);
        }
        if (cells < 0) {
            return refuse(BELOW);
        }
        if (cells > ALL_CELLS) {
            return refuse(ABOVE);
        }
        int before = radio.reachOf[place];
        radio.reachOf[place] = cells;
        return before;
    }

    public boolean noise(int where, int channel, boolean on) {
        boolean known = isPlace(where) || where >= PLACES && radio.hasCell(where - PLACES);
        return known && isChannel(channel) && radio.changeNoise(where, channel, on);
    }

    public int go(int p, int place) {
        if (!radio.hasPortable(p) || !isPlace(place)) {
            return refuse(NOBODY);
        }
        int before = radio.placeOf[p];
        radio.placeOf[p] = place;
        return before;
    }

    public int enter(int p, long key) {
        Portable it = find(p);
        if (it == null) {
            return refuse(NOBODY);
        }
        if (it.state != IDLE) {
            return refuse(STATE);
        }
        it.exchangeKey = key;
        it.entered = true;
        return 1;
    }

    public int dial(int p, int q) {
        Portable it = find(p);
        Portable other = find(q);
        if (it == null || other == null || p == q) {
            return refuse(NOBODY);
        }
        if (it.state != IDLE) {
            return refuse(STATE);
        }
        if (!it.entered || !other.entered) {
            return refuse(NOT_ENTERED);
        }
        it.begin(CALLING, q, time);
        return 1;
    }

    public int answer(int p) {
        Portable it = find(p);
        if (it == null) {
            return refuse(NOBODY);
        }
        Portable other = find(it.partner);
        if (it.state != RINGING || other == null) {
            return refuse(STATE);
        }
        it.state = ACTIVE;
        other.state = ACTIVE;
        callsActive++;
        return 1;
    }

    public int hang(int p) {
        Portable it = find(p);
        if (it == null) {
            return refuse(NOBODY);
        }
        if (it.state == IDLE) {
            return refuse(STATE);
        }
        endCall(it);
        return 1;
    }

    public int say(int p, long block) {
        Portable it = find(p);
        if (it == null) {
            return refuse(NOBODY);
        }
        if (it.state != ACTIVE) {
            return refuse(STATE);
        }
        if (!it.said.put(block)) {
            return refuse(ABOVE);
        }
        return it.said.size;
    }

    public int frames(int n) {
        if (n < 1) {
            return refuse(BELOW);
        }
        if (n > MOST_FRAMES || time + n > LAST_TIME) {
            return refuse(ABOVE);
        }
        int before = blocksHeard;
        for (int i = 0; i < n; i++) {
            runFrame();
        }
        return blocksHeard - before;
    }

    public long heard(int p, int i) {
        Portable it = find(p);
        return it == null ? 0 : it.kept.at(i);
    }

    public int portableOf(int p, int what) {
        Portable it = find(p);
        if (it == null) {
            return NONE;
        }
        switch (what) {
            case 0: return it.state;
            case 1: return radio.placeOf[p];
            case 2: return it.partner;
            case 3: return radio.bearersOf(p);
            case 4: return radio.handsOver(p) ? 1 : 0;
            case 5: return it.said.size;
            case 6: return it.atExchange.size;
            case 7: return it.heardInAll;
            case 8: return it.entered ? 1 : 0;
            case 9: return it.isPending() ? time - it.since : 0;
            default: return NONE;
        }
    }

    public int bearer(int i, int what) {
        if (i < 0 || i >= radio.bearerCount) {
            return NONE;
        }
        Bearer it = radio.bearers[i];
        switch (what) {
            case 0: return it.portable;
            case 1: return it.cell;
            case 2: return it.channel;
            case 3: return it.fails;
            case 4: return it.good ? 1 : 0;
            default: return NONE;
        }
    }

    public int level(int p, int cell, int channel) {
        if (!radio.hasPortable(p) || !radio.hasCell(cell) || !isChannel(channel)) {
            return refuse(NOBODY);
        }
        return radio.levelOn(channel, radio.noiseBits(p, cell),
                radio.otherCells(p, cell), radio.otherPortables(p, cell));
    }

    public boolean beacon(int cell, int place) {
        return radio.hasCell(cell) && isPlace(place) && radio.comesDown(cell, place, radio.beaconOf[cell]);
    }

    public long mix(long key, long n) {
        return mixOf(key, n);
    }

    public long air(int what) {
        switch (what) {
            case 0: return airUp;
            case 1: return airDown;
            default: return 0;
        }
    }

    public int count(int what) {
        switch (what) {
            case 0: return time;
            case 1: return radio.cellCount;
            case 2: return radio.portableCount;
            case 3: return radio.bearerCount;
            case 4: return radio.bearersMade;
            case 5: return callsActive;
            case 6: return callsEnded;
            case 7: return handovers;
            case 8: return blocksUp;
            default: return what >= 11 && what <= 16 ? refusals[what - 10] : NONE;
        }
    }

    private static boolean isPlace(int place) {
        return place >= 0 && place < PLACES;
    }

    private static boolean isChannel(int channel) {
        return channel >= 0 && channel < CHANNELS;
    }

    private static long mixOf(long key, long n) {
        long x = key ^ n * MIX_NUMBER;
        x = (x ^ x >>> MIX_SHIFT) * MIX_FACTOR;
        return (x ^ x >>> MIX_SHIFT) * MIX_FACTOR;
    }

    private int refuse(int why) {
        int row = -why;
        if (row >= 0 && row < refusals.length) {
            refusals[row]++;
        }
        return why;
    }

    private Portable find(int p) {
        return radio.hasPortable(p) ? portables[p] : null;
    }

    private void runFrame() {
        time++;
        setUpBearers();
        radio.sendAll();
        radio.dropFailed();
        dropHandedOver();
        endCallsWithoutBearer();
        advanceCalls();
        carryUp();
        carryDown();
        endOldCalls();
    }

    private void setUpBearers() {
        for (int p = 0; p < radio.portableCount; p++) {
            if ((time - p) % SET_UP_EVERY == 0 && wantsBearer(portables[p])) {
                radio.setUp(p);
            }
        }
    }

    private boolean wantsBearer(Portable it) {
        boolean seeks = it.state == CALLING || it.state == PAGED;
        return seeks && radio.bearersOf(it.number) == 0 || radio.handsOver(it.number);
    }

    private void dropHandedOver() {
        for (int p = 0; p < radio.portableCount; p++) {
            if (radio.dropFirstForSecond(p)) {
                handovers++;
            }
        }
    }

    private void endCallsWithoutBearer() {
        for (int p = 0; p < radio.portableCount; p++) {
            Portable it = portables[p];
            boolean needsNone = it.state == IDLE || it.state == CALLING || it.state == PAGED;
            if (!needsNone && radio.bearersOf(p) == 0) {
                endCall(it);
            }
        }
    }

    // A portable is looked at once and only its own turn makes it PROVING, so whoever is
    // PROVING at its turn was so as the frame began.
    private void advanceCalls() {
        for (int p = 0; p < radio.portableCount; p++) {
            if (radio.hasGoodBearer(p) && !advance(portables[p])) {
                endCall(portables[p]);
            }
        }
    }

    /** Takes a call one step further; false if the call must end instead. */
    private boolean advance(Portable it) {
        switch (it.state) {
            case CALLING:
                it.state = PROVING;
                return true;
            case PAGED:
                it.state = PROVING_PAGED;
                return true;
            case PROVING:
                return isProven(it) && pagePartner(it);
            case PROVING_PAGED:
                return isProven(it) && startRinging(it);
            default:
                return true;
        }
    }

    private boolean pagePartner(Portable it) {
        Portable other = find(it.partner);
        if (other == null || other.state != IDLE || !other.entered) {
            return false;
        }
        it.state = WAITING;
        other.begin(PAGED, it.number, time);
        return true;
    }

    private static boolean startRinging(Portable it) {
        it.state = RINGING;
        return true;
    }

    private boolean isProven(Portable it) {
        return it.entered && mixOf(it.key, time) == mixOf(it.exchangeKey, time);
    }

    private void carryUp() {
        for (int p = 0; p < radio.portableCount; p++) {
            portables[p].ready = portables[p].atExchange.size;
        }
        for (int p = 0; p < radio.portableCount; p++) {
            if (canTalk(portables[p])) {
                sendUp(portables[p]);
            }
        }
    }

    private void sendUp(Portable it) {
        Portable other = find(it.partner);
        if (other == null || it.said.size == 0) {
            return;
        }
        airUp = it.said.take() ^ mixOf(it.key, time);
        blocksUp++;
        other.atExchange.put(airUp ^ mixOf(it.exchangeKey, time));
    }

    private void carryDown() {
        for (int p = 0; p < radio.portableCount; p++) {
            if (canTalk(portables[p]) && portables[p].ready > 0) {
                sendDown(portables[p]);
            }
        }
    }

    private void sendDown(Portable it) {
        long n = time + DOWNWARD;
        airDown = it.atExchange.take() ^ mixOf(it.exchangeKey, n);
        it.keep(airDown ^ mixOf(it.key, n));
        blocksHeard++;
    }

    private boolean canTalk(Portable it) {
        return it.state == ACTIVE && radio.hasGoodBearer(it.number);
    }

    private void endOldCalls() {
        for (int p = 0; p < radio.portableCount; p++) {
            Portable it = portables[p];
            if (it.isPending() && time - it.since > LONGEST_WAIT) {
                endCall(it);
            }
        }
    }

    private void endCall(Portable it) {
        Portable other = find(it.partner);
        if (other != null && isOneCall(it, other)) {
            release(other);
        }
        release(it);
        callsEnded++;
    }

    // Two that dial each other are partners of each other, but in two calls.
    private static boolean isOneCall(Portable it, Portable other) {
        if (other.partner != it.number) {
            return false;
        }
        return it.calls() && other.isCalled() || it.isCalled() && other.calls()
                || it.state == ACTIVE && other.state == ACTIVE;
    }

    private void release(Portable it) {
        it.becomeIdle();
        radio.dropBearersOf(it.number);
    }

    /** A portable as the exchange knows it; where it is and its bearers are the radio's. */
    private static final class Portable {
        final int number;
        final long key;
        long exchangeKey;
        boolean entered;
        int state = IDLE;
        int partner = NONE;
        int since;
        int ready;
        int heardInAll;
        final Blocks said = new Blocks(MOST_SAID);
        final Blocks atExchange = new Blocks(MOST_AT_EXCHANGE);
        final Blocks kept = new Blocks(MOST_KEPT);

        Portable(int number, long key) {
            this.number = number;
            this.key = key;
        }

        void begin(int newState, int newPartner, int now) {
            state = newState;
            partner = newPartner;
            since = now;
        }

        void becomeIdle() {
            state = IDLE;
            partner = NONE;
            said.clear();
            atExchange.clear();
        }

        void keep(long block) {
            if (kept.isFull()) {
                kept.take();
            }
            kept.put(block);
            heardInAll++;
        }

        boolean calls() {
            return state == CALLING || state == PROVING || state == WAITING;
        }

        boolean isCalled() {
            return state == PAGED || state == PROVING_PAGED || state == RINGING;
        }

        boolean isPending() {
            return calls() || isCalled();
        }
    }

    /** Blocks that stand in a row, the eldest first, in a ring of fixed room. */
    private static final class Blocks {
        private final long[] ring;
        private int first;
        int size;

        Blocks(int room) {
            ring = new long[Math.max(room, 1)];
        }

        boolean isFull() {
            return size >= ring.length;
        }

        boolean put(long block) {
            if (isFull()) {
                return false;
            }
            ring[wrap(first + size)] = block;
            size++;
            return true;
        }

        long take() {
            if (size == 0) {
                return 0;
            }
            long block = ring[first];
            first = wrap(first + 1);
            size--;
            return block;
        }

        long at(int i) {
            return i >= 0 && i < size ? ring[wrap(first + i)] : 0;
        }

        void clear() {
            first = 0;
            size = 0;
        }

        private int wrap(int index) {
            return index < ring.length ? index : index - ring.length;
        }
    }

    /** A channel between a portable and a cell. */
    private static final class Bearer {
        int portable;
        int cell;
        int channel;
        int fails;
        boolean good;
    }

    /**
     * The air: who reaches whom, where there is noise, and who sends on which channel.
     * Who sends is kept as bits for each channel, so that a level costs a few bit counts.
     */
    private static final class Radio {
        int cellCount;
        int portableCount;
        int bearerCount;
        int bearersMade;
        final int[] beaconOf = new int[MOST_CELLS];
        final int[] placeOf = new int[MOST_PORTABLES];
        final int[] reachOf = new int[PLACES];
        private final int[] noiseOn = new int[CHANNELS];
        private final int[] cellsOn = new int[CHANNELS];
        private final int[] portablesOn = new int[CHANNELS];
        final Bearer[] bearers = new Bearer[MOST_BEARERS];

        Radio() {
            for (int i = 0; i < MOST_BEARERS; i++) {
                bearers[i] = new Bearer();
            }
        }

        boolean hasCell(int c) {
            return c >= 0 && c < cellCount;
        }

        boolean hasPortable(int p) {
            return p >= 0 && p < portableCount;
        }

        int addCell(int channel) {
            int number = cellCount;
            beaconOf[number] = channel;
            cellsOn[channel] |= 1 << number;
            cellCount++;
            return number;
        }

        int addPortable(int place) {
            int number = portableCount;
            placeOf[number] = place;
            portableCount++;
            return number;
        }

        boolean changeNoise(int where, int channel, boolean on) {
            int bit = 1 << where;
            boolean was = (noiseOn[channel] & bit) != 0;
            if (was != on) {
                noiseOn[channel] ^= bit;
            }
            return was != on;
        }

        int noiseBits(int p, int c) {
            return 1 << placeOf[p] | 1 << PLACES + c;
        }

        int otherCells(int p, int c) {
            return reachOf[placeOf[p]] & ~(1 << c);
        }

        int otherPortables(int p, int c) {
            int bits = 0;
            for (int other = 0; other < portableCount; other++) {
                if (other != p && reachesPlace(c, placeOf[other])) {
                    bits |= 1 << other;
                }
            }
            return bits;
        }

        int levelOn(int channel, int noiseBits, int otherCells, int otherPortables) {
            return NOISE_LEVEL * Integer.bitCount(noiseOn[channel] & noiseBits)
                    + Integer.bitCount(cellsOn[channel] & otherCells)
                    + Integer.bitCount(portablesOn[channel] & otherPortables);
        }

        private boolean reachesPlace(int c, int place) {
            return (reachOf[place] & 1 << c) != 0;
        }

        boolean comesDown(int c, int place, int channel) {
            int othersThatSend = cellsOn[channel] & reachOf[place] & ~(1 << c);
            return reachesPlace(c, place) && (noiseOn[channel] & 1 << place) == 0
                    && othersThatSend == 0;
        }

        private boolean comesUp(int p, int c, int channel) {
            return reachesPlace(c, placeOf[p]) && (noiseOn[channel] & 1 << PLACES + c) == 0
                    && (portablesOn[channel] & otherPortables(p, c)) == 0;
        }

        int bearersOf(int p) {
            int n = 0;
            for (int i = 0; i < bearerCount; i++) {
                if (bearers[i].portable == p) {
                    n++;
                }
            }
            return n;
        }

        private int firstBearerOf(int p) {
            for (int i = 0; i < bearerCount; i++) {
                if (bearers[i].portable == p) {
                    return i;
                }
            }
            return NONE;
        }

        private int lastBearerOf(int p) {
            for (int i = bearerCount - 1; i >= 0; i--) {
                if (bearers[i].portable == p) {
                    return i;
                }
            }
            return NONE;
        }

        boolean handsOver(int p) {
            int only = firstBearerOf(p);
            return only >= 0 && only == lastBearerOf(p)
                    && bearers[only].fails >= FAILS_TO_HAND_OVER;
        }

        boolean hasGoodBearer(int p) {
            for (int i = 0; i < bearerCount; i++) {
                if (bearers[i].portable == p && bearers[i].good) {
                    return true;
                }
            }
            return false;
        }

        void setUp(int p) {
            int c = chooseCell(p);
            if (c < 0) {
                return;
            }
            int channel = chooseChannel(p, c);
            if (channel >= 0) {
                addBearer(p, c, channel);
            }
        }

        // The cell that a portable already has a bearer with is the last resort.
        private int chooseCell(int p) {
            int had = firstBearerOf(p);
            int hadCell = had < 0 ? NONE : bearers[had].cell;
            int chosen = NONE;
            for (int c = 0; c < cellCount; c++) {
                if (comesDown(c, placeOf[p], beaconOf[c])) {
                    if (c != hadCell) {
                        return c;
                    }
                    chosen = c;
                }
            }
            return chosen;
        }

        private int chooseChannel(int p, int c) {
            int slots = takenSlots(p, c);
            int noiseBits = noiseBits(p, c);
            int cells = otherCells(p, c);
            int others = otherPortables(p, c);
            int least = TOO_DISTURBED;
            int chosen = NONE;
            for (int channel = 0; channel < CHANNELS && least > 0; channel++) {
                if ((slots & 1 << channel / CARRIERS) == 0) {
                    int found = levelOn(channel, noiseBits, cells, others);
                    if (found < least) {
                        least = found;
                        chosen = channel;
                    }
                }
            }
            return chosen;
        }

        private int takenSlots(int p, int c) {
            int slots = 1 << beaconOf[c] / CARRIERS;
            for (int i = 0; i < bearerCount; i++) {
                if (bearers[i].portable == p || bearers[i].cell == c) {
                    slots |= 1 << bearers[i].channel / CARRIERS;
                }
            }
            return slots;
        }

        private void addBearer(int p, int c, int channel) {
            if (bearerCount >= MOST_BEARERS) {
                return;
            }
            Bearer it = bearers[bearerCount];
            it.portable = p;
            it.cell = c;
            it.channel = channel;
            it.fails = 0;
            it.good = false;
            cellsOn[channel] |= 1 << c;
            portablesOn[channel] |= 1 << p;
            bearerCount++;
            bearersMade++;
        }

        void sendAll() {
            for (int i = 0; i < bearerCount; i++) {
                Bearer it = bearers[i];
                it.good = comesDown(it.cell, placeOf[it.portable], it.channel)
                        && comesUp(it.portable, it.cell, it.channel);
                it.fails = it.good ? 0 : it.fails + 1;
            }
        }

        void dropFailed() {
            for (int i = bearerCount - 1; i >= 0; i--) {
                if (bearers[i].fails >= FAILS_TO_DROP) {
                    dropBearer(i);
                }
            }
        }

        boolean dropFirstForSecond(int p) {
            int first = firstBearerOf(p);
            int second = lastBearerOf(p);
            if (first < 0 || first == second || !bearers[second].good) {
                return false;
            }
            dropBearer(first);
            return true;
        }

        void dropBearersOf(int p) {
            for (int i = bearerCount - 1; i >= 0; i--) {
                if (bearers[i].portable == p) {
                    dropBearer(i);
                }
            }
        }

        // A cell and a portable have one bearer in a slot, and a cell none in its beacon's,
        // so nothing else of theirs needs the bits that go.
        private void dropBearer(int i) {
            Bearer gone = bearers[i];
            cellsOn[gone.channel] &= ~(1 << gone.cell);
            portablesOn[gone.channel] &= ~(1 << gone.portable);
            bearerCount--;
            for (int k = i; k < bearerCount; k++) {
                bearers[k] = bearers[k + 1];
            }
            bearers[bearerCount] = gone;
        }
    }
}
