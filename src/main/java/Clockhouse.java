/** A network time client; ../shared/DOC.md says what it promises. */
public final class Clockhouse {
    public static final int NONE = -1;
    public static final int SLEWED = 0, STEPPED = 1;

    private static final int MOST_SERVERS = 8;
    private static final int MOST_SAMPLES = 8;
    private static final int UNSYNCHRONIZED = 16;
    private static final int MOST_CORRECTION = 500;
    private static final long MILLION = 1000000L;
    private static final long LAST_TRUE_TIME = 1000000000000L;
    private static final long MOST_SLEWED_OFFSET = 128000L;

    private final Oscillator oscillator = new Oscillator();
    private final LeapSeconds leapSeconds = new LeapSeconds();
    private final Server[] rooms = new Server[MOST_SERVERS];
    private final Selection selection = new Selection();
    private int serverCount;
    private long truth;
    private int clientStratum;
    private int stepCount;
    private int synchronizationCount;
    private long readingBehindSynchronization;

    public Clockhouse() {
        for (int s = 0; s < rooms.length; s++) {
            rooms[s] = new Server();
        }
        begin(0);
    }

    // ---- time

    public void restart(int reading) throws IllegalArgumentException {
        if (!isWithin(reading, -1000000000, 1000000000)) {
            throw new IllegalArgumentException();
        }
        begin(reading);
    }

    public long pass(int micros) throws IllegalArgumentException, IllegalStateException {
        if (!isWithin(micros, 1, 1000000000)) {
            throw new IllegalArgumentException();
        }
        if (isBeyondLastTrueTime(micros)) {
            throw new IllegalStateException();
        }
        elapse(micros);
        return oscillator.reading();
    }

    public int setDrift(int drift) throws IllegalArgumentException {
        if (!isWithin(drift, -300, 300)) {
            throw new IllegalArgumentException();
        }
        return oscillator.changeDrift(drift);
    }

    public long trueTime() {
        return truth;
    }

    public long clock() {
        return oscillator.reading();
    }

    public long error() {
        return oscillator.reading() - truth;
    }

    public long pendingSlew() {
        return oscillator.pendingMicros();
    }

    public int correction() {
        return oscillator.presentCorrection();
    }

    // ---- leap seconds

    public long announceLeap(int day, boolean isInsertion) throws IllegalArgumentException, IllegalStateException {
        if (!isWithin(day, 0, LeapSeconds.LAST_DAY)) {
            throw new IllegalArgumentException();
        }
        long beginning = LeapSeconds.smearBeginning(day);
        if (leapSeconds.isAnnounced(day) || oscillator.reading() >= beginning) {
            throw new IllegalStateException();
        }
        leapSeconds.announce(day, isInsertion);
        return beginning;
    }

    public long civil() {
        return leapSeconds.civilTime(oscillator.reading());
    }

    // ---- servers

    public int addServer(int stratum, int error, int rootDelay, int rootDispersion)
            throws IllegalArgumentException, IllegalStateException {
        if (!isWithin(stratum, 1, 14) || !isServerError(error)
                || !isWithin(rootDelay, 0, 1000000) || !isWithin(rootDispersion, 0, 1000000)) {
            throw new IllegalArgumentException();
        }
        Server room = serverCount < MOST_SERVERS ? roomOrNull(serverCount) : null;
        if (room == null) {
            throw new IllegalStateException();
        }
        room.settle(stratum, error, rootDelay, rootDispersion);
        serverCount++;
        return serverCount - 1;
    }

    public int setError(int server, int error) throws IndexOutOfBoundsException, IllegalArgumentException {
        Server found = knownServer(server);
        if (!isServerError(error)) {
            throw new IllegalArgumentException();
        }
        return found.changeError(error);
    }

    public long exchange(int server, int out, int processing, int back)
            throws IndexOutOfBoundsException, IllegalArgumentException, IllegalStateException {
        Server found = knownServer(server);
        if (!isWithin(out, 0, 500000) || !isWithin(processing, 0, 100000) || !isWithin(back, 0, 500000)) {
            throw new IllegalArgumentException();
        }
        if (isBeyondLastTrueTime((long) out + processing + back)) {
            throw new IllegalStateException();
        }
        return takeSample(found, out, processing, back);
    }

    public int servers() {
        return serverCount;
    }

    public int samples(int server) throws IndexOutOfBoundsException {
        return knownServer(server).kept();
    }

    public long offset(int server) throws IndexOutOfBoundsException, IllegalStateException {
        return heardServer(server).bestOffset();
    }

    public long delay(int server) throws IndexOutOfBoundsException, IllegalStateException {
        return heardServer(server).bestDelay();
    }

    public long jitter(int server) throws IndexOutOfBoundsException, IllegalStateException {
        return heardServer(server).offsetJitter();
    }

    public long distance(int server) throws IndexOutOfBoundsException, IllegalStateException {
        return heardServer(server).distanceAt(oscillator.reading());
    }

    // ---- selection

    public int agreement() {
        select();
        return selection.agreed();
    }

    public boolean hasMajority() {
        select();
        return selection.isMajority();
    }

    public int agreeing() {
        select();
        return selection.agreeingBits();
    }

    public long low() throws IllegalStateException {
        selectFromSome();
        return selection.lowEnd();
    }

    public long high() throws IllegalStateException {
        selectFromSome();
        return selection.highEnd();
    }

    public int survivors() {
        select();
        return selection.survivorBits();
    }

    public long combinedOffset() throws IllegalStateException {
        selectFromSome();
        return selection.weightedOffset();
    }

    public int peer() {
        select();
        return selection.preferred();
    }

    // ---- discipline

    public int synchronize() throws IllegalStateException {
        select();
        if (!selection.isMajority()) {
            throw new IllegalStateException();
        }
        long offset = selection.weightedOffset();
        correctRate(offset);
        int result = correctTime(offset);
        takeStratumOfPeer();
        forgetSamples();
        readingBehindSynchronization = oscillator.reading();
        synchronizationCount++;
        return result;
    }

    public int stratum() {
        return clientStratum;
    }

    public int steps() {
        return stepCount;
    }

    public int synchronizations() {
        return synchronizationCount;
    }

    // ---- what the calls share

    private static boolean isWithin(int value, int least, int most) {
        return value >= least && value <= most;
    }

    private static boolean isServerError(int error) {
        return isWithin(error, -1000000, 1000000);
    }

    private void begin(int reading) {
        oscillator.begin(reading);
        leapSeconds.clear();
        serverCount = 0;
        truth = 0;
        clientStratum = UNSYNCHRONIZED;
        stepCount = 0;
        synchronizationCount = 0;
        readingBehindSynchronization = 0;
    }

    private boolean isBeyondLastTrueTime(long micros) {
        return truth + micros > LAST_TRUE_TIME;
    }

    private void elapse(int micros) {
        truth += micros;
        oscillator.elapse(micros);
    }

    private Server roomOrNull(int index) {
        return index >= 0 && index < rooms.length ? rooms[index] : null;
    }

    private Server serverOrNull(int server) {
        return server < serverCount ? roomOrNull(server) : null;
    }

    private Server knownServer(int server) {
        Server found = serverOrNull(server);
        if (found == null) {
            throw new IndexOutOfBoundsException();
        }
        return found;
    }

    private Server heardServer(int server) {
        Server found = knownServer(server);
        if (found.kept() == 0) {
            throw new IllegalStateException();
        }
        return found;
    }

    private long takeSample(Server server, int out, int processing, int back) {
        long sent = oscillator.reading();
        elapse(out);
        long received = server.readingAt(truth);
        elapse(processing);
        long answered = server.readingAt(truth);
        elapse(back);
        long arrived = oscillator.reading();
        long sampleOffset = Math.floorDiv((received - sent) + (answered - arrived), 2L);
        long sampleDelay = Math.max(0L, (arrived - sent) - (answered - received));
        server.keep(sampleOffset, sampleDelay, arrived);
        return sampleDelay;
    }

    /** Made anew for every question, because the distances grow while the clock goes on. */
    private void select() {
        long now = oscillator.reading();
        selection.clear();
        for (int s = 0; s < serverCount && s < MOST_SERVERS; s++) {
            Server server = serverOrNull(s);
            if (server != null && server.kept() > 0) {
                selection.enter(s, server, now);
            }
        }
        selection.intersect();
        selection.cluster();
    }

    private void selectFromSome() {
        select();
        if (selection.isEmpty()) {
            throw new IllegalStateException();
        }
    }

    private void correctRate(long offset) {
        long interval = oscillator.reading() - readingBehindSynchronization;
        if (synchronizationCount > 0 && interval > 0) {
            long frequency = offset * MILLION / interval;
            oscillator.addCorrection(frequency / 4);
        }
    }

    private int correctTime(long offset) {
        if (offset > MOST_SLEWED_OFFSET) {
            oscillator.step(offset);
            stepCount++;
            return STEPPED;
        }
        oscillator.slew(offset);
        return SLEWED;
    }

    /** Selects once more: the document corrects the clock first, and a step makes the samples older. */
    private void takeStratumOfPeer() {
        select();
        Server chosen = serverOrNull(selection.preferred());
        if (chosen != null) {
            clientStratum = chosen.ownStratum() + 1;
        }
    }

    private void forgetSamples() {
        for (int s = 0; s < rooms.length; s++) {
            Server server = rooms[s];
            if (server != null) {
                server.forget();
            }
        }
    }

    /** The clock of the client, with what makes it go wrong and what makes it go right. */
    private static final class Oscillator {
        private static final long MOST_SLEW_RATE = 500L;

        private long picos;
        private long pendingPicos;
        private int driftRate;
        private int correctionRate;

        void begin(int reading) {
            picos = reading * MILLION;
            pendingPicos = 0;
            driftRate = 0;
            correctionRate = 0;
        }

        long reading() {
            return Math.floorDiv(picos, MILLION);
        }

        long pendingMicros() {
            return pendingPicos / MILLION;
        }

        int presentCorrection() {
            return correctionRate;
        }

        int changeDrift(int drift) {
            int previous = driftRate;
            driftRate = drift;
            return previous;
        }

        void elapse(int micros) {
            long most = MOST_SLEW_RATE * micros;
            long part = Math.max(-most, Math.min(most, pendingPicos));
            picos += micros * (MILLION + driftRate + correctionRate) + part;
            pendingPicos -= part;
        }

        void addCorrection(long more) {
            long sum = correctionRate + more;
            correctionRate = (int) Math.max(-MOST_CORRECTION, Math.min(MOST_CORRECTION, sum));
        }

        void step(long micros) {
            picos += micros * MILLION;
            pendingPicos = 0;
        }

        void slew(long micros) {
            pendingPicos = micros * MILLION;
        }
    }

    /** The announced leap seconds, as bits: bit d stands for the one at the end of day d. */
    private static final class LeapSeconds {
        private static final int LAST_DAY = 20;
        private static final long DAY = 86400000000L;
        private static final long SMEAR = 20000000000L;
        private static final long PACE = 20000L;
        private static final long SECOND = 1000000L;

        private int inserted;
        private int deleted;

        static long smearBeginning(int day) {
            return (day + 1L) * DAY - SMEAR;
        }

        void clear() {
            inserted = 0;
            deleted = 0;
        }

        boolean isAnnounced(int day) {
            return contains(inserted | deleted, day);
        }

        void announce(int day, boolean isInsertion) {
            if (isInsertion) {
                inserted |= 1 << day;
            } else {
                deleted |= 1 << day;
            }
        }

        long civilTime(long reading) {
            long civil = reading;
            for (int day = 0; day <= LAST_DAY; day++) {
                if (contains(inserted, day)) {
                    civil -= partCome(day, reading);
                }
                if (contains(deleted, day)) {
                    civil += partCome(day, reading);
                }
            }
            return civil;
        }

        private static boolean contains(int days, int day) {
            return (days >> day & 1) != 0;
        }

        private static long partCome(int day, long reading) {
            long behind = reading - smearBeginning(day);
            if (behind < 0) {
                return 0;
            }
            return behind < SMEAR ? behind / PACE : SECOND;
        }
    }

    /** Eight numbers, for the samples of a server or for the servers; each index is looked at here. */
    private static final class Row {
        private static final int LENGTH = 8;

        private final long[] cells = new long[LENGTH];

        long get(int index) {
            return index >= 0 && index < cells.length ? cells[index] : 0;
        }

        void put(int index, long value) {
            if (index >= 0 && index < cells.length) {
                cells[index] = value;
            }
        }

        /** Puts a value in front; the last one falls out. */
        void push(long value) {
            for (int i = LENGTH - 1; i > 0; i--) {
                put(i, get(i - 1));
            }
            put(0, value);
        }
    }

    /** A server and its samples, the newest first, so that among equal delays the first found is the newest. */
    private static final class Server {
        private static final long AGING = 15L;

        private final Row offsets = new Row();
        private final Row delays = new Row();
        private final Row times = new Row();
        private int count;
        private int best;
        private int level;
        private int clockError;
        private long rootDelay;
        private long rootDispersion;

        void settle(int stratum, int error, int rootDelay, int rootDispersion) {
            this.level = stratum;
            this.clockError = error;
            this.rootDelay = rootDelay;
            this.rootDispersion = rootDispersion;
            forget();
        }

        void forget() {
            count = 0;
            best = 0;
        }

        int kept() {
            return count;
        }

        int ownStratum() {
            return level;
        }

        int changeError(int error) {
            int previous = clockError;
            clockError = error;
            return previous;
        }

        long readingAt(long trueTime) {
            return trueTime + clockError;
        }

        void keep(long offset, long delay, long time) {
            offsets.push(offset);
            delays.push(delay);
            times.push(time);
            count = Math.min(count + 1, MOST_SAMPLES);
            best = leastDelay();
        }

        long bestOffset() {
            return offsets.get(best);
        }

        long bestDelay() {
            return delays.get(best);
        }

        long offsetJitter() {
            if (count < 2) {
                return 0;
            }
            long middle = offsets.get(best);
            long sum = 0;
            for (int i = 0; i < count; i++) {
                sum += Math.abs(offsets.get(i) - middle);
            }
            return sum / (count - 1);
        }

        long distanceAt(long reading) {
            long age = reading - times.get(best);
            return rootDelay / 2 + bestDelay() / 2 + rootDispersion + offsetJitter()
                    + Math.floorDiv(AGING * age, MILLION);
        }

        private int leastDelay() {
            int found = 0;
            for (int i = 1; i < count; i++) {
                if (delays.get(i) < delays.get(found)) {
                    found = i;
                }
            }
            return found;
        }
    }

    /** What the candidates of one moment agree on; sets of servers are bits, bit s for the server s. */
    private static final class Selection {
        private static final int FEWEST_CLUSTERED = 3;

        private final Row offsets = new Row();
        private final Row distances = new Row();
        private final Row jitters = new Row();
        private final Row strata = new Row();
        private int candidateSet;
        private int agreeingSet;
        private int survivorSet;
        private long lowest;
        private long highest;

        void clear() {
            candidateSet = 0;
            agreeingSet = 0;
            survivorSet = 0;
            lowest = 0;
            highest = 0;
        }

        void enter(int s, Server server, long now) {
            offsets.put(s, server.bestOffset());
            distances.put(s, server.distanceAt(now));
            jitters.put(s, server.offsetJitter());
            strata.put(s, server.ownStratum());
            candidateSet |= 1 << s;
        }

        boolean isEmpty() {
            return candidateSet == 0;
        }

        boolean isMajority() {
            return 2 * agreed() > Integer.bitCount(candidateSet);
        }

        int agreed() {
            return Integer.bitCount(agreeingSet);
        }

        int agreeingBits() {
            return agreeingSet;
        }

        int survivorBits() {
            return survivorSet;
        }

        long lowEnd() {
            return lowest;
        }

        long highEnd() {
            return highest;
        }

        /** Tries the lower ends alone: the least number in the most intervals begins one of them. */
        void intersect() {
            for (int s = 0; s < MOST_SERVERS; s++) {
                if (contains(candidateSet, s)) {
                    tryLowEnd(offsets.get(s) - distances.get(s));
                }
            }
            highest = leastUpperEnd();
        }

        private void tryLowEnd(long number) {
            int set = intervalsWith(number);
            int more = Integer.bitCount(set) - Integer.bitCount(agreeingSet);
            if (more > 0 || more == 0 && number < lowest) {
                agreeingSet = set;
                lowest = number;
            }
        }

        private int intervalsWith(long number) {
            int set = 0;
            for (int s = 0; s < MOST_SERVERS; s++) {
                if (contains(candidateSet, s) && Math.abs(number - offsets.get(s)) <= distances.get(s)) {
                    set |= 1 << s;
                }
            }
            return set;
        }

        private long leastUpperEnd() {
            long least = 0;
            boolean isFound = false;
            for (int s = 0; s < MOST_SERVERS; s++) {
                long end = offsets.get(s) + distances.get(s);
                if (contains(agreeingSet, s) && (!isFound || end < least)) {
                    least = end;
                    isFound = true;
                }
            }
            return least;
        }

        void cluster() {
            survivorSet = agreeingSet;
            for (int round = 0; round < MOST_SERVERS; round++) {
                if (Integer.bitCount(survivorSet) <= FEWEST_CLUSTERED) {
                    return;
                }
                int outlier = widestSpread();
                if (spread(outlier) <= leastJitter()) {
                    return;
                }
                survivorSet &= ~(1 << outlier);
            }
        }

        private int widestSpread() {
            int widest = NONE;
            for (int s = 0; s < MOST_SERVERS; s++) {
                if (contains(survivorSet, s) && (widest == NONE || spread(s) >= spread(widest))) {
                    widest = s;
                }
            }
            return widest;
        }

        private long spread(int server) {
            int others = Integer.bitCount(survivorSet) - 1;
            if (others < 1) {
                return 0;
            }
            long sum = 0;
            for (int s = 0; s < MOST_SERVERS; s++) {
                if (contains(survivorSet, s)) {
                    sum += Math.abs(offsets.get(s) - offsets.get(server));
                }
            }
            return sum / others;
        }

        private long leastJitter() {
            long least = 0;
            boolean isFound = false;
            for (int s = 0; s < MOST_SERVERS; s++) {
                if (contains(survivorSet, s) && (!isFound || jitters.get(s) < least)) {
                    least = jitters.get(s);
                    isFound = true;
                }
            }
            return least;
        }

        long weightedOffset() {
            long sum = 0;
            long weights = 0;
            for (int s = 0; s < MOST_SERVERS; s++) {
                if (contains(survivorSet, s)) {
                    sum += weight(s) * offsets.get(s);
                    weights += weight(s);
                }
            }
            return weights > 0 ? Math.floorDiv(sum, weights) : 0;
        }

        private long weight(int server) {
            long divisor = distances.get(server) + 1;
            return divisor > 0 ? Math.max(1L, MILLION / divisor) : 1;
        }

        int preferred() {
            int found = NONE;
            for (int s = 0; s < MOST_SERVERS; s++) {
                if (contains(survivorSet, s) && (found == NONE || isBetter(s, found))) {
                    found = s;
                }
            }
            return found;
        }

        private boolean isBetter(int server, int than) {
            if (strata.get(server) != strata.get(than)) {
                return strata.get(server) < strata.get(than);
            }
            return distances.get(server) < distances.get(than);
        }

        private static boolean contains(int set, int server) {
            return (set >> server & 1) != 0;
        }
    }
}
