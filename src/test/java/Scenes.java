/** Objects in states that the tests begin with, and texts that tell all that an object answers. */
class Scenes {
    static final Class<IllegalArgumentException> ARGUMENT = IllegalArgumentException.class;
    static final Class<IllegalStateException> STATE = IllegalStateException.class;
    static final Class<IndexOutOfBoundsException> INDEX = IndexOutOfBoundsException.class;

    /** What no object with one server knows. */
    static final int[] NO_SERVERS = {Integer.MIN_VALUE, -1, 1, 2, 7, 8, 9, Integer.MAX_VALUE};
    static final int LONGEST = 1000000000;
    static final long END_OF_TIME = 1000000000000L;

    /** A server whose sample, taken in no time, has the offset and the distance told (while the clock is right). */
    static int heard(Clockhouse x, int stratum, int offset, int distance) {
        int server = x.addServer(stratum, offset, 0, distance);
        x.exchange(server, 0, 0, 0);
        return server;
    }

    /** Like heard, but a second, slower sample gives the server a jitter, which its distance holds besides. */
    static int heardTwice(Clockhouse x, int offset, int distance, int jitter) {
        int server = heard(x, 1, offset, distance);
        x.setError(server, offset + jitter);
        x.exchange(server, 1, 0, 1);
        return server;
    }

    static void hearAgain(Clockhouse x, int server, int error) {
        x.setError(server, error);
        x.exchange(server, 0, 0, 0);
    }

    static void passMany(Clockhouse x, int times, int micros) {
        for (int i = 0; i < times; i++) {
            x.pass(micros);
        }
    }

    static void passUntilTheClockReads(Clockhouse x, long reading) {
        passMany(x, (int) ((reading - x.clock()) / LONGEST), LONGEST);
        if (reading > x.clock()) {
            x.pass((int) (reading - x.clock()));
        }
    }

    /** One server whose offset is told; the clock is synchronized by it. */
    static Clockhouse synchronizedBy(int offset) {
        Clockhouse x = new Clockhouse();
        heard(x, 1, offset, 0);
        x.synchronize();
        return x;
    }

    /** Synchronized a second time, by this offset, so long after the first. */
    static Clockhouse correctedBy(int offset, int interval) {
        Clockhouse x = synchronizedBy(0);
        x.pass(interval);
        hearAgain(x, 0, offset);
        x.synchronize();
        return x;
    }

    /** It takes more calls than the document promises anything for; true time's end can't be reached with fewer. */
    static Clockhouse beforeTheEndOfTime(int micros) {
        Clockhouse x = new Clockhouse();
        heard(x, 2, 40, 5);
        passMany(x, 999, LONGEST);
        x.pass(LONGEST - micros);
        return x;
    }

    /** Five servers that agree, a clock that was stepped, corrected and is slewed, and two leap seconds to come. */
    static Clockhouse busy() {
        Clockhouse x = new Clockhouse();
        x.restart(-200000);
        x.setDrift(37);
        for (int s = 0; s < 5; s++) {
            x.addServer(2 + s % 3, 1000 + 10 * s, 100 * s, 4000);
        }
        for (int round = 0; round < 3; round++) {
            for (int s = 0; s < 5; s++) {
                x.setError(s, 10 * s - 700 * round);
            }
            for (int s = 0; s < 5; s++) {
                x.exchange(s, 100 + s, 3, 90 + 7 * s);
                x.exchange((s + round) % 5, 80, 1, 95);
            }
            if (round < 2) {
                x.synchronize();
                x.pass(1000003);
            }
        }
        x.announceLeap(0, true);
        x.announceLeap(2, false);
        return x;
    }

    /** As busy, with as many servers as there can be. */
    static Clockhouse full() {
        Clockhouse x = busy();
        for (int s = 5; s < 8; s++) {
            heard(x, 9, 1000 * s, 200);
        }
        return x;
    }

    /** A server without a sample, because the clock was synchronized by it. */
    static Clockhouse silent() {
        Clockhouse x = synchronizedBy(90);
        x.pass(30001);
        return x;
    }

    /** Two servers that do not agree. */
    static Clockhouse divided() {
        Clockhouse x = synchronizedBy(-90);
        x.pass(30001);
        hearAgain(x, 0, 70);
        heard(x, 1, 900, 10);
        return x;
    }

    static String asked(Checks.Call... calls) {
        StringBuilder answers = new StringBuilder();
        for (Checks.Call call : calls) {
            answers.append(Checks.outcome(call)).append(' ');
        }
        return answers.toString();
    }

    /** What can be asked without changing anything. */
    static String stateOf(Clockhouse x) {
        StringBuilder state = new StringBuilder();
        state.append(asked(x::trueTime, x::clock, x::error, x::pendingSlew, x::correction, x::civil, x::servers));
        state.append(asked(x::agreement, () -> x.hasMajority() ? 1 : 0, x::agreeing, x::low, x::high));
        state.append(asked(x::survivors, x::combinedOffset, x::peer, x::stratum, x::steps, x::synchronizations));
        int servers = x.servers();
        for (int s = 0; s < servers; s++) {
            int server = s;
            state.append(asked(() -> x.samples(server), () -> x.offset(server), () -> x.delay(server),
                    () -> x.jitter(server), () -> x.distance(server)));
        }
        return state.toString();
    }

    /** All that an object answers from here on: what can be asked, and what calls that change it bring out. */
    static String futureOf(Clockhouse x) {
        return stateOf(x) + changesOf(x);
    }

    static String changesOf(Clockhouse x) {
        StringBuilder changes = new StringBuilder();
        changes.append(asked(() -> x.pass(1), () -> x.pass(1998), () -> x.pass(1000000), () -> x.setDrift(300)));
        changes.append(asked(() -> x.pass(1), () -> x.pass(1), () -> x.pass(1998)));
        for (int d = 0; d <= 20; d++) {
            int day = d;
            changes.append(asked(() -> x.announceLeap(day, true)));
        }
        int servers = x.servers();
        for (int s = 0; s < servers; s++) {
            int server = s;
            changes.append(asked(() -> x.exchange(server, 3, 2, 1), () -> x.setError(server, 0)));
        }
        changes.append(stateOf(x)).append(asked(x::synchronize)).append(stateOf(x));
        changes.append(asked(() -> x.addServer(1, 0, 5, 6)));
        for (int i = 0; i < 90; i++) {
            changes.append(asked(() -> x.pass(LONGEST)));
        }
        return changes.append(stateOf(x)).toString();
    }
}
