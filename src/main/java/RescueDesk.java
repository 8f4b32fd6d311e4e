import java.util.Arrays;

/** Copies a failing disk sector by sector, and keeps a map of how it is with each sector. */
public final class RescueDesk {
    public static final int NONE = -1;

    private static final int MOST_SECTORS = 64;
    private static final int MOST_FAILURES = 9;
    private static final int ALWAYS_FAILS = -1;
    private static final int MOST_RETRIES = 5;
    private static final int MOST_STEPS = 300;

    private static final int LONGEST_READ = 8;
    private static final int FIRST_LEAP = 8;
    private static final int LONGEST_LEAP = 32;

    private static final int UNTRIED = 0;
    private static final int UNTRIMMED = 1;
    private static final int UNSCRAPED = 2;
    private static final int BAD = 3;
    private static final int RESCUED = 4;

    private static final int FORWARD = 0;
    private static final int BACKWARD = 1;
    private static final int SWEEP = 2;
    private static final int TRIM = 3;
    private static final int SCRAPE = 4;
    private static final int RETRY = 5;
    private static final int DONE = 6;
    private static final int STOPPED = 7;

    private static final int SLOTS = 2;
    private static final int SLOT_BYTES = 140;
    private static final int HIGHEST_BYTE = 255;
    private static final int SAVE_NUMBERS = 200;
    private static final int SUM_MODULUS = 251;
    private static final int HEAD_BYTES = 2;
    private static final int RUN_BYTES = 2;

    private final Disk disk = new Disk();
    private final SectorMap map = new SectorMap();
    private final Copier copier = new Copier(disk, map);
    private final Saves saves = new Saves();

    public RescueDesk() {
    }

    public void source(int n) throws IllegalArgumentException {
        if (n < 1 || n > MOST_SECTORS) {
            throw new IllegalArgumentException("a source has 1 to 64 sectors");
        }
        disk.lay(n);
        saves.wipe();
        copier.forget();
    }

    public void sector(int s, int word, int failures) throws IllegalArgumentException {
        if (!disk.has(s)) {
            throw new IllegalArgumentException("no such sector");
        }
        if (failures < ALWAYS_FAILS || failures > MOST_FAILURES) {
            throw new IllegalArgumentException("failures are -1 to 9");
        }
        disk.put(s, word, failures);
    }

    public void begin(int retries) throws IllegalArgumentException, IllegalStateException {
        if (retries < 0 || retries > MOST_RETRIES) {
            throw new IllegalArgumentException("retries are 0 to 5");
        }
        if (disk.size() == 0 || copier.currentPhase() != NONE) {
            throw new IllegalStateException("no source, or begun already");
        }
        map.clear(disk.size());
        copier.start(retries);
    }

    public int step() throws IllegalStateException {
        if (!copier.goesOn()) {
            throw new IllegalStateException("copying is not going on");
        }
        return copier.makeStep();
    }

    public int run(int n) throws IllegalArgumentException, IllegalStateException {
        if (n < 0 || n > MOST_STEPS) {
            throw new IllegalArgumentException("steps are 0 to 300");
        }
        if (!copier.goesOn()) {
            throw new IllegalStateException("copying is not going on");
        }
        int done = 0;
        while (done < n && copier.makeStep() != DONE) {
            done++;
        }
        return done;
    }

    public int save() throws IllegalStateException {
        if (!copier.goesOn()) {
            throw new IllegalStateException("copying is not going on");
        }
        return saves.write(map, SLOT_BYTES);
    }

    public int stop(int keep) throws IllegalArgumentException, IllegalStateException {
        if (keep < 0) {
            throw new IllegalArgumentException("keep is below 0");
        }
        if (!copier.goesOn()) {
            throw new IllegalStateException("copying is not going on");
        }
        copier.halt();
        return keep == 0 ? 0 : saves.write(map, keep);
    }

    public int resume() throws IllegalStateException {
        if (copier.currentPhase() != STOPPED) {
            throw new IllegalStateException("copying is not stopped");
        }
        map.clear(disk.size());
        int slot = saves.newestWhole(disk.size());
        saves.load(slot, map);
        copier.enter(FORWARD);
        return slot;
    }

    public void poke(int slot, int place, int v) throws IllegalArgumentException {
        if (!saves.has(slot, place)) {
            throw new IllegalArgumentException("no such slot or place");
        }
        if (v < 0 || v > HIGHEST_BYTE) {
            throw new IllegalArgumentException("a byte is 0 to 255");
        }
        saves.put(slot, place, v);
    }

    public boolean second(int s, int word) throws IllegalArgumentException, IllegalStateException {
        if (!disk.has(s)) {
            throw new IllegalArgumentException("no such sector");
        }
        if (!copier.goesOn()) {
            throw new IllegalStateException("copying is not going on");
        }
        if (map.stateOf(s) != BAD) {
            return false;
        }
        disk.deliver(s, word);
        map.mark(s, s + 1, RESCUED);
        return true;
    }

    public int state(int s) {
        return copier.goesOn() ? map.stateOf(s) : NONE;
    }

    public int count(int state) {
        return copier.goesOn() ? map.countOf(state) : 0;
    }

    public int part(int i, int what) {
        int first = copier.goesOn() ? map.firstOfRun(i) : NONE;
        if (first == NONE) {
            return NONE;
        }
        switch (what) {
            case 0:
                return first;
            case 1:
                return map.behindStretch(first, MOST_SECTORS) - first;
            case 2:
                return map.stateOf(first);
            default:
                return NONE;
        }
    }

    public int phase() {
        return copier.currentPhase();
    }

    public int out(int s) {
        return disk.wordOut(s);
    }

    public int reads(int s) {
        return disk.readsOf(s);
    }

    public int made(boolean failed) {
        return disk.stretchesRead(failed);
    }

    public int image(int slot, int place) {
        return saves.byteAt(slot, place);
    }

    /** The source and the target, and what was read from the one to the other. */
    private static final class Disk {
        private final int[] words = new int[MOST_SECTORS];
        private final int[] failuresLeft = new int[MOST_SECTORS];
        private final int[] readCounts = new int[MOST_SECTORS];
        private final int[] target = new int[MOST_SECTORS];
        private int sectors;
        private int stretches;
        private int failedStretches;

        void lay(int n) {
            sectors = n;
            stretches = 0;
            failedStretches = 0;
            Arrays.fill(words, 0);
            Arrays.fill(failuresLeft, 0);
            Arrays.fill(readCounts, 0);
            Arrays.fill(target, 0);
        }

        int size() {
            return sectors;
        }

        boolean has(int s) {
            return s >= 0 && s < sectors;
        }

        void put(int s, int word, int failures) {
            if (has(s)) {
                words[s] = word;
                failuresLeft[s] = failures;
            }
        }

        void deliver(int s, int word) {
            if (has(s)) {
                target[s] = word;
            }
        }

        int wordOut(int s) {
            return has(s) ? target[s] : 0;
        }

        int readsOf(int s) {
            return has(s) ? readCounts[s] : 0;
        }

        int stretchesRead(boolean failed) {
            return failed ? failedStretches : stretches;
        }

        boolean readStretch(int first, int behind) {
            if (first < 0 || first >= behind || behind > sectors) {
                return false;
            }
            stretches++;
            for (int s = first; s < behind; s++) {
                readCounts[s]++;
                if (failuresLeft[s] != 0) {
                    if (failuresLeft[s] != ALWAYS_FAILS) {
                        failuresLeft[s]--;
                    }
                    failedStretches++;
                    return false;
                }
            }
            // Only now: a read that fails brings nothing, not even the words before the failure.
            System.arraycopy(words, first, target, first, behind - first);
            return true;
        }
    }

    /** The state of each sector; a stretch is told by its first sector and the one behind it. */
    private static final class SectorMap {
        private final int[] states = new int[MOST_SECTORS];
        private int sectors;

        void clear(int n) {
            sectors = Math.max(0, Math.min(n, MOST_SECTORS));
            Arrays.fill(states, UNTRIED);
        }

        int size() {
            return sectors;
        }

        int stateOf(int s) {
            return s >= 0 && s < sectors ? states[s] : NONE;
        }

        void mark(int first, int behind, int state) {
            int end = Math.min(behind, sectors);
            for (int s = Math.max(0, first); s < end; s++) {
                states[s] = state;
            }
        }

        int countOf(int state) {
            int found = 0;
            for (int s = 0; s < sectors; s++) {
                if (states[s] == state) {
                    found++;
                }
            }
            return found;
        }

        int firstFrom(int state, int from) {
            for (int s = Math.max(0, from); s < sectors; s++) {
                if (states[s] == state) {
                    return s;
                }
            }
            return NONE;
        }

        int lastBelow(int state, int below) {
            for (int s = Math.min(below, sectors) - 1; s >= 0; s--) {
                if (states[s] == state) {
                    return s;
                }
            }
            return NONE;
        }

        int behindStretch(int first, int most) {
            int s = first + 1;
            while (s < sectors && s - first < most && stateOf(s) == stateOf(first)) {
                s++;
            }
            return s;
        }

        int firstOfStretch(int last, int most) {
            int s = last;
            while (s > 0 && last - s + 1 < most && stateOf(s - 1) == stateOf(last)) {
                s--;
            }
            return s;
        }

        boolean startsRun(int s) {
            return s == 0 || stateOf(s) != stateOf(s - 1);
        }

        int firstOfRun(int i) {
            int runsBefore = 0;
            for (int s = 0; s < sectors; s++) {
                if (startsRun(s)) {
                    if (runsBefore == i) {
                        return s;
                    }
                    runsBefore++;
                }
            }
            return NONE;
        }
    }

    /** Leads the copying through its phases. */
    private static final class Copier {
        private final Disk disk;
        private final SectorMap map;
        private int phaseNow;
        private int position;
        private int leap;
        private int round;
        private int retryRounds;
        private boolean trimsLast;

        Copier(Disk disk, SectorMap map) {
            this.disk = disk;
            this.map = map;
            this.phaseNow = NONE;
        }

        int currentPhase() {
            return phaseNow;
        }

        boolean goesOn() {
            return phaseNow >= FORWARD && phaseNow <= DONE;
        }

        void forget() {
            phaseNow = NONE;
        }

        void halt() {
            phaseNow = STOPPED;
        }

        void start(int retries) {
            retryRounds = retries;
            enter(FORWARD);
        }

        // A stop may leave any phase half done, so each begins with all that it needs.
        void enter(int next) {
            phaseNow = next;
            leap = FIRST_LEAP;
            position = next == BACKWARD ? map.size() : 0;
            round = 0;
            trimsLast = false;
        }

        int makeStep() {
            for (int tried = phaseNow; tried < DONE; tried++) {
                if (readIn(tried)) {
                    return tried;
                }
                enter(tried + 1);
            }
            return DONE;
        }

        private boolean readIn(int which) {
            switch (which) {
                case FORWARD:
                    return readForward(true);
                case BACKWARD:
                    return readBackward();
                case SWEEP:
                    return readForward(false);
                case TRIM:
                    return trim();
                case SCRAPE:
                    return scrape();
                case RETRY:
                    return retry();
                default:
                    return false;
            }
        }

        private boolean readForward(boolean leaping) {
            int first = map.firstFrom(UNTRIED, position);
            if (first == NONE) {
                return false;
            }
            int behind = map.behindStretch(first, LONGEST_READ);
            boolean rescued = rescue(first, behind, UNTRIMMED);
            position = behind + (leaping ? takeLeap(rescued) : 0);
            return true;
        }

        private boolean readBackward() {
            int last = map.lastBelow(UNTRIED, position);
            if (last == NONE) {
                return false;
            }
            int first = map.firstOfStretch(last, LONGEST_READ);
            boolean rescued = rescue(first, last + 1, UNTRIMMED);
            position = first - takeLeap(rescued);
            return true;
        }

        private int takeLeap(boolean rescued) {
            int taken = rescued ? 0 : leap;
            leap = rescued ? FIRST_LEAP : Math.min(2 * leap, LONGEST_LEAP);
            return taken;
        }

        private boolean trim() {
            int first = map.firstFrom(UNTRIMMED, 0);
            if (first == NONE) {
                return false;
            }
            int last = map.behindStretch(first, MOST_SECTORS) - 1;
            int s = trimsLast ? last : first;
            boolean rescued = rescue(s, s + 1, BAD);
            if (!rescued && trimsLast) {
                map.mark(first, last, UNSCRAPED);
            }
            if (first == last) {
                trimsLast = false;
            } else if (!rescued) {
                trimsLast = !trimsLast;
            }
            return true;
        }

        private boolean scrape() {
            int s = map.firstFrom(UNSCRAPED, 0);
            if (s == NONE) {
                return false;
            }
            rescue(s, s + 1, BAD);
            return true;
        }

        private boolean retry() {
            int s = nextBad();
            if (s == NONE) {
                return false;
            }
            rescue(s, s + 1, BAD);
            position = goesUp(round) ? s + 1 : s;
            return true;
        }

        private int nextBad() {
            for (int tried = round; tried < retryRounds; tried++) {
                int s = goesUp(tried) ? map.firstFrom(BAD, position) : map.lastBelow(BAD, position);
                if (s != NONE) {
                    return s;
                }
                enterRound(tried + 1);
            }
            return NONE;
        }

        private void enterRound(int next) {
            round = next;
            position = goesUp(next) ? 0 : map.size();
        }

        private boolean goesUp(int ofRound) {
            return ofRound % 2 == 0;
        }

        private boolean rescue(int first, int behind, int stateIfFailed) {
            boolean rescued = disk.readStretch(first, behind);
            map.mark(first, behind, rescued ? RESCUED : stateIfFailed);
            return rescued;
        }
    }

    /** The two slots, and the images of the map that are written to them by turns. */
    private static final class Saves {
        private final int[][] slots = new int[SLOTS][SLOT_BYTES];
        private final int[] drawn = new int[SLOT_BYTES];
        private int lastNumber;

        void wipe() {
            lastNumber = 0;
            for (int slot = 0; slot < SLOTS; slot++) {
                Arrays.fill(slots[slot], 0);
            }
        }

        boolean has(int slot, int place) {
            return slot >= 0 && slot < SLOTS && place >= 0 && place < SLOT_BYTES;
        }

        int byteAt(int slot, int place) {
            return has(slot, place) ? slots[slot][place] : NONE;
        }

        void put(int slot, int place, int v) {
            if (has(slot, place)) {
                slots[slot][place] = v;
            }
        }

        int write(SectorMap map, int keep) {
            lastNumber = behindNumber(lastNumber);
            int written = Math.min(keep, draw(map));
            for (int place = 0; place < written && place < drawn.length; place++) {
                put(lastNumber % SLOTS, place, drawn[place]);
            }
            return lastNumber;
        }

        // Drawn aside first, as a stop may write only the beginning of it.
        private int draw(SectorMap map) {
            int runs = 0;
            for (int s = 0; s < map.size(); s++) {
                if (map.startsRun(s)) {
                    putDrawn(placeOfRun(runs), map.behindStretch(s, MOST_SECTORS) - s);
                    putDrawn(placeOfRun(runs) + 1, map.stateOf(s));
                    runs++;
                }
            }
            putDrawn(0, lastNumber);
            putDrawn(1, runs);
            int sumPlace = placeOfRun(runs);
            putDrawn(sumPlace, sumBefore(drawn, sumPlace));
            return sumPlace + 1;
        }

        private void putDrawn(int place, int v) {
            if (place >= 0 && place < drawn.length) {
                drawn[place] = v;
            }
        }

        private int placeOfRun(int i) {
            return HEAD_BYTES + RUN_BYTES * i;
        }

        private int sumBefore(int[] bytes, int end) {
            int sum = 0;
            for (int place = 0; place < end && place < bytes.length; place++) {
                sum += bytes[place] * (place + 1);
            }
            return sum % SUM_MODULUS;
        }

        private int behindNumber(int number) {
            return (number + 1) % SAVE_NUMBERS;
        }

        int newestWhole(int sectors) {
            boolean whole0 = isWhole(0, sectors);
            boolean whole1 = isWhole(1, sectors);
            if (whole0 && whole1) {
                return byteAt(1, 0) == behindNumber(byteAt(0, 0)) ? 1 : 0;
            }
            if (whole0) {
                return 0;
            }
            return whole1 ? 1 : NONE;
        }

        private boolean isWhole(int slot, int sectors) {
            int runs = byteAt(slot, 1);
            if (!has(slot, 1) || byteAt(slot, 0) >= SAVE_NUMBERS || runs > sectors) {
                return false;
            }
            int sumPlace = placeOfRun(runs);
            return hasRuns(slot, runs, sectors)
                    && byteAt(slot, sumPlace) == sumBefore(slots[slot], sumPlace);
        }

        private boolean hasRuns(int slot, int runs, int sectors) {
            int covered = 0;
            int stateBefore = NONE;
            for (int i = 0; i < runs; i++) {
                int length = byteAt(slot, placeOfRun(i));
                int state = byteAt(slot, placeOfRun(i) + 1);
                if (length == 0 || state > RESCUED || state == stateBefore) {
                    return false;
                }
                covered += length;
                stateBefore = state;
            }
            return covered == sectors;
        }

        void load(int slot, SectorMap map) {
            if (slot == NONE) {
                lastNumber = 0;
                return;
            }
            lastNumber = byteAt(slot, 0);
            int runs = byteAt(slot, 1);
            int first = 0;
            for (int i = 0; i < runs; i++) {
                int behind = first + byteAt(slot, placeOfRun(i));
                map.mark(first, behind, byteAt(slot, placeOfRun(i) + 1));
                first = behind;
            }
        }
    }
}
