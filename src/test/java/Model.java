import java.math.BigDecimal;
import java.math.BigInteger;
import java.math.RoundingMode;
import java.util.ArrayList;
import java.util.Comparator;
import java.util.HashMap;
import java.util.List;
import java.util.Map;
import java.util.TreeSet;

/** The document once more, written apart from the class: with big numbers and lists, and as slow as it likes. */
final class Model {
    private static final long DAY = 86400000000L;

    private record Sample(long offset, long delay, long time) {
    }

    private static final class Source {
        int number;
        int stratum;
        int error;
        int rootDelay;
        int rootDispersion;
        List<Sample> samples = new ArrayList<>();
    }

    private BigDecimal clock = BigDecimal.ZERO;
    private BigDecimal pending = BigDecimal.ZERO;
    private long truth;
    private int drift;
    private int correction;
    private int stratum = 16;
    private int steps;
    private int synchronizations;
    private Long lastReading;
    private Map<Integer, Boolean> leaps = new HashMap<>();
    private List<Source> sources = new ArrayList<>();

    void restart(int reading) {
        argument(Math.abs((long) reading) <= 1000000000L);
        clock = BigDecimal.valueOf(reading);
        pending = BigDecimal.ZERO;
        truth = 0;
        drift = 0;
        correction = 0;
        stratum = 16;
        steps = 0;
        synchronizations = 0;
        lastReading = null;
        leaps = new HashMap<>();
        sources = new ArrayList<>();
    }

    long pass(int micros) {
        argument(micros >= 1 && micros <= 1000000000);
        state(truth + micros <= 1000000000000L);
        go(micros);
        return clock();
    }

    int setDrift(int value) {
        argument(value >= -300 && value <= 300);
        int before = drift;
        drift = value;
        return before;
    }

    long trueTime() {
        return truth;
    }

    long clock() {
        return clock.setScale(0, RoundingMode.FLOOR).longValueExact();
    }

    long error() {
        return clock() - truth;
    }

    long pendingSlew() {
        return pending.setScale(0, RoundingMode.DOWN).longValueExact();
    }

    int correction() {
        return correction;
    }

    long announceLeap(int day, boolean isInsertion) {
        argument(day >= 0 && day <= 20);
        long beginning = day * DAY + DAY - 20000000000L;
        state(!leaps.containsKey(day) && clock() < beginning);
        leaps.put(day, isInsertion);
        return beginning;
    }

    long civil() {
        long reading = clock();
        long civil = reading;
        for (Map.Entry<Integer, Boolean> leap : leaps.entrySet()) {
            long k = reading - ((leap.getKey() + 1) * DAY - 20000000000L);
            long come = Math.min(1000000L, Math.max(0L, k) / 20000L);
            civil += leap.getValue() ? -come : come;
        }
        return civil;
    }

    int addServer(int level, int error, int rootDelay, int rootDispersion) {
        argument(level >= 1 && level <= 14 && Math.abs((long) error) <= 1000000
                && rootDelay >= 0 && rootDelay <= 1000000 && rootDispersion >= 0 && rootDispersion <= 1000000);
        state(sources.size() < 8);
        Source source = new Source();
        source.number = sources.size();
        source.stratum = level;
        source.error = error;
        source.rootDelay = rootDelay;
        source.rootDispersion = rootDispersion;
        sources.add(source);
        return source.number;
    }

    int setError(int server, int error) {
        Source source = source(server);
        argument(Math.abs((long) error) <= 1000000);
        int before = source.error;
        source.error = error;
        return before;
    }

    long exchange(int server, int out, int processing, int back) {
        Source source = source(server);
        argument(out >= 0 && out <= 500000 && processing >= 0 && processing <= 100000 && back >= 0 && back <= 500000);
        state(truth + out + processing + back <= 1000000000000L);
        long t1 = clock();
        long t2 = truth + out + source.error;
        long t3 = t2 + processing;
        go(out);
        go(processing);
        go(back);
        long t4 = clock();
        Sample sample = new Sample(down((t2 - t1) + (t3 - t4), 2), Math.max(0, (t4 - t1) - (t3 - t2)), t4);
        source.samples.add(sample);
        if (source.samples.size() > 8) {
            source.samples.remove(0);
        }
        return sample.delay;
    }

    int servers() {
        return sources.size();
    }

    int samples(int server) {
        return source(server).samples.size();
    }

    long offset(int server) {
        return best(heard(server)).offset;
    }

    long delay(int server) {
        return best(heard(server)).delay;
    }

    long jitter(int server) {
        return jitterOf(heard(server));
    }

    long distance(int server) {
        return distanceOf(heard(server));
    }

    int agreement() {
        return agreeingSources().size();
    }

    boolean hasMajority() {
        return 2 * agreement() > candidates().size();
    }

    int agreeing() {
        return bits(agreeingSources());
    }

    long low() {
        state(!candidates().isEmpty());
        return lowEnd();
    }

    long high() {
        state(!candidates().isEmpty());
        return agreeingSources().stream().mapToLong(this::upper).min().getAsLong();
    }

    int survivors() {
        return bits(survivingSources());
    }

    long combinedOffset() {
        state(!candidates().isEmpty());
        BigInteger sum = BigInteger.ZERO;
        BigInteger weights = BigInteger.ZERO;
        for (Source s : survivingSources()) {
            BigInteger weight = BigInteger.valueOf(Math.max(1, 1000000 / (distanceOf(s) + 1)));
            sum = sum.add(weight.multiply(BigInteger.valueOf(best(s).offset)));
            weights = weights.add(weight);
        }
        return new BigDecimal(sum).divide(new BigDecimal(weights), 0, RoundingMode.FLOOR).longValueExact();
    }

    int peer() {
        return survivingSources().stream()
                .min(Comparator.<Source>comparingInt(s -> s.stratum).thenComparingLong(this::distanceOf)
                        .thenComparingInt(s -> s.number))
                .map(s -> s.number).orElse(-1);
    }

    int synchronize() {
        state(hasMajority());
        long o = combinedOffset();
        if (lastReading != null && clock() > lastReading) {
            BigInteger i = BigInteger.valueOf(clock() - lastReading);
            long f = BigInteger.valueOf(o).multiply(BigInteger.valueOf(1000000)).divide(i).longValueExact();
            correction = (int) Math.min(500, Math.max(-500, correction + f / 4));
        }
        boolean isStep = o > 128000;
        if (isStep) {
            clock = clock.add(BigDecimal.valueOf(o));
            pending = BigDecimal.ZERO;
            steps++;
        } else {
            pending = BigDecimal.valueOf(o);
        }
        stratum = sources.get(peer()).stratum + 1;
        for (Source source : sources) {
            source.samples.clear();
        }
        lastReading = clock();
        synchronizations++;
        return isStep ? 1 : 0;
    }

    int stratum() {
        return stratum;
    }

    int steps() {
        return steps;
    }

    int synchronizations() {
        return synchronizations;
    }

    // ---- what stands behind

    private static void argument(boolean isRight) {
        if (!isRight) {
            throw new IllegalArgumentException();
        }
    }

    private static void state(boolean isRight) {
        if (!isRight) {
            throw new IllegalStateException();
        }
    }

    private static long down(long dividend, long divisor) {
        return new BigDecimal(dividend).divide(new BigDecimal(divisor), 0, RoundingMode.FLOOR).longValueExact();
    }

    private Source source(int server) {
        if (server < 0 || server >= sources.size()) {
            throw new IndexOutOfBoundsException();
        }
        return sources.get(server);
    }

    private Source heard(int server) {
        Source source = source(server);
        state(!source.samples.isEmpty());
        return source;
    }

    /** In microseconds with six places, so that a place is a picosecond. */
    private void go(int micros) {
        BigDecimal most = BigDecimal.valueOf(500L * micros, 6);
        BigDecimal part = pending.min(most).max(most.negate());
        clock = clock.add(BigDecimal.valueOf(micros)).add(BigDecimal.valueOf((long) micros * (drift + correction), 6));
        clock = clock.add(part);
        pending = pending.subtract(part);
        truth += micros;
    }

    private static Sample best(Source source) {
        Sample best = null;
        for (Sample sample : source.samples) {
            if (best == null || sample.delay <= best.delay) {
                best = sample;
            }
        }
        return best;
    }

    private static long jitterOf(Source source) {
        int n = source.samples.size();
        long middle = best(source).offset;
        long sum = source.samples.stream().mapToLong(s -> Math.abs(s.offset - middle)).sum();
        return n == 1 ? 0 : sum / (n - 1);
    }

    private long distanceOf(Source source) {
        long age = clock() - best(source).time;
        return source.rootDelay / 2 + best(source).delay / 2 + source.rootDispersion + jitterOf(source)
                + down(15 * age, 1000000);
    }

    private List<Source> candidates() {
        List<Source> all = new ArrayList<>(sources);
        all.removeIf(s -> s.samples.isEmpty());
        return all;
    }

    private long lower(Source source) {
        return best(source).offset - distanceOf(source);
    }

    private long upper(Source source) {
        return best(source).offset + distanceOf(source);
    }

    private List<Source> containing(long number) {
        List<Source> all = candidates();
        all.removeIf(s -> number < lower(s) || number > upper(s));
        return all;
    }

    private long lowEnd() {
        TreeSet<Long> ends = new TreeSet<>();
        for (Source source : candidates()) {
            ends.add(lower(source));
            ends.add(upper(source));
        }
        int most = ends.stream().mapToInt(e -> containing(e).size()).max().getAsInt();
        return ends.stream().filter(e -> containing(e).size() == most).findFirst().get();
    }

    private List<Source> agreeingSources() {
        return candidates().isEmpty() ? new ArrayList<>() : containing(lowEnd());
    }

    private List<Source> survivingSources() {
        List<Source> left = agreeingSources();
        while (left.size() > 3) {
            List<Source> now = left;
            Source outlier = left.stream()
                    .max(Comparator.<Source>comparingLong(s -> spread(s, now)).thenComparingInt(s -> s.number)).get();
            long least = left.stream().mapToLong(Model::jitterOf).min().getAsLong();
            if (spread(outlier, left) <= least) {
                break;
            }
            left.remove(outlier);
        }
        return left;
    }

    private static long spread(Source source, List<Source> among) {
        long sum = 0;
        for (Source other : among) {
            sum += Math.abs(best(other).offset - best(source).offset);
        }
        return sum / (among.size() - 1);
    }

    private static int bits(List<Source> set) {
        int bits = 0;
        for (Source source : set) {
            bits |= 1 << source.number;
        }
        return bits;
    }
}
