/** "Servers and samples", and the promises 12 to 20. */
final class ServerSentences extends Sentences {
    private static final int[] NOT_ERRORS = outside(-1000000, 1000000);
    private static final int[] NOT_ROOTS = outside(0, 1000000);
    private static final int[] NOT_STRATA = outside(1, 14);
    private static final int[] NOT_WAYS = outside(0, 500000);
    private static final int[] NOT_PROCESSING = outside(0, 100000);

    ServerSentences(Document document, Checks checks) {
        super(document, checks);
    }

    @Override
    void testAll() {
        test("Servers and samples", "There are at most 8 servers", this::atMostEight);
        test("Servers and samples", "A server has a stratum, an error", this::whatAServerHas);
        test("Servers and samples", "In an exchange, the reading t1", this::readingsOfAnExchange);
        test("Servers and samples", "The sample has the offset", this::sample);
        test("Servers and samples", "Of each server the last 8 samples are kept.", this::lastEight);
        test("Servers and samples", "Its best sample is", this::bestSample);
        test("Servers and samples", "The offset and the delay of a server", this::ofTheBestSample);
        test("Servers and samples", "The jitter of a server with n samples", this::jitterOfSamples);
        test("Servers and samples", "The distance of a server is", this::partsOfTheDistance);
        testPromises12And13();
        testPromises14To16();
        testPromises17To20();
    }

    private void testPromises12And13() {
        test("Promise 12", "`int addServer", this::addServer);
        test("Promise 12", "- `stratum`", this::strata);
        test("Promise 12", "- `error`", this::errors);
        test("Promise 12", "- `rootDelay`", this::rootDelays);
        test("Promise 12", "- `rootDispersion`", this::rootDispersions);
        test("Promise 12", "Returns", this::numbers);
        test("Promise 12", "Throws `IllegalArgumentException`", this::wrongServers);
        test("Promise 12", "Throws `IllegalStateException`", this::theNinth);
        test("Promise 13", "`int setError", this::setError);
        test("Promise 13", "- `error`", this::changedErrors);
        test("Promise 13", "Returns", this::previousError);
        test("Promise 13", "Throws `IndexOutOfBoundsException`", this::setErrorOfNoServer);
        test("Promise 13", "Throws `IllegalArgumentException`", this::wrongErrors);
    }

    private void testPromises14To16() {
        test("Promise 14", "`long exchange", this::exchange);
        test("Promise 14", "- `out`", this::outs);
        test("Promise 14", "- `processing`", this::processings);
        test("Promise 14", "- `back`", this::backs);
        test("Promise 14", "Returns", this::delayOfTheSample);
        test("Promise 14", "Throws `IndexOutOfBoundsException`", this::exchangeWithNoServer);
        test("Promise 14", "Throws `IllegalArgumentException`", this::wrongExchanges);
        test("Promise 14", "Throws `IllegalStateException`", this::exchangeBeyondTheEnd);
        test("Promise 15", "`int servers()`", this::servers);
        test("Promise 16", "`int samples", this::samples);
        test("Promise 16", "Throws", () -> dueNoServer("samples", (x, s) -> x.samples(s)));
    }

    private void testPromises17To20() {
        test("Promise 17", "`long offset", this::offset);
        test("Promise 17", "Throws `IndexOutOfBoundsException`", () -> dueNoServer("offset", (x, s) -> x.offset(s)));
        test("Promise 17", "Throws `IllegalStateException`", () -> dueNoSample("offset", (x, s) -> x.offset(s)));
        test("Promise 18", "`long delay", this::delay);
        test("Promise 18", "Throws `IndexOutOfBoundsException`", () -> dueNoServer("delay", (x, s) -> x.delay(s)));
        test("Promise 18", "Throws `IllegalStateException`", () -> dueNoSample("delay", (x, s) -> x.delay(s)));
        test("Promise 19", "`long jitter", this::jitter);
        test("Promise 19", "Throws `IndexOutOfBoundsException`", () -> dueNoServer("jitter", (x, s) -> x.jitter(s)));
        test("Promise 19", "Throws `IllegalStateException`", () -> dueNoSample("jitter", (x, s) -> x.jitter(s)));
        test("Promise 20", "`long distance", this::distance);
        test("Promise 20", "Throws `IndexOutOfBoundsException`",
                () -> dueNoServer("distance", (x, s) -> x.distance(s)));
        test("Promise 20", "Throws `IllegalStateException`", () -> dueNoSample("distance", (x, s) -> x.distance(s)));
    }

    // ---- what several promises say alike

    interface OfServer {
        long asked(Clockhouse x, int server);
    }

    private void dueNoServer(String call, OfServer asked) {
        checks.dueThrow(call + "(0) of a new object", INDEX, () -> asked.asked(new Clockhouse(), 0));
        for (int server : NO_SERVERS) {
            dueRefused(call + "(" + server + ") of one server", INDEX, Scenes::silent, x -> asked.asked(x, server));
        }
        int[] besideFull = {Integer.MIN_VALUE, -8, -1, 8, 9, 16, Integer.MAX_VALUE};
        for (int server : besideFull) {
            dueRefused(call + "(" + server + ") of eight", INDEX, Scenes::full, x -> asked.asked(x, server));
        }
        checks.dueThrow(call + "(0) after restart", INDEX, () -> {
            Clockhouse x = full();
            x.restart(0);
            return asked.asked(x, 0);
        });
        for (int server = 0; server < 8; server++) {
            int there = server;
            checks.due(call + "(" + server + ") of eight", false,
                    Checks.outcome(() -> asked.asked(full(), there)).startsWith("throws."));
        }
    }

    private void dueNoSample(String call, OfServer asked) {
        dueRefused(call + "(0), its samples are forgotten", STATE, Scenes::silent, x -> asked.asked(x, 0));
        Clockhouse x = full();
        x.restart(0);
        x.addServer(1, 0, 0, 0);
        checks.dueThrow(call + "(0) of a new server", STATE, () -> asked.asked(x, 0));
        x.addServer(1, 0, 0, 0);
        x.exchange(1, 0, 0, 0);
        checks.dueThrow(call + "(0), another has a sample", STATE, () -> asked.asked(x, 0));
        checks.due(call + "(1) of one sample", 0, asked.asked(x, 1));
    }

    // ---- "Servers and samples"

    private static Clockhouse withServers(int servers) {
        Clockhouse x = new Clockhouse();
        for (int s = 0; s < servers; s++) {
            x.addServer(1 + s, 10 * s, 0, 1000);
        }
        return x;
    }

    private void atMostEight() {
        Clockhouse x = withServers(7);
        checks.due("addServer, the eighth", 7, x.addServer(8, 70, 0, 1000));
        checks.dueThrow("addServer, the ninth", STATE, () -> x.addServer(9, 80, 0, 1000));
        checks.due("servers()", 8, x.servers());
        for (int s = 0; s < 8; s++) {
            x.exchange(s, 0, 0, 0);
            checks.due("offset(" + s + ")", 10 * s, x.offset(s));
        }
        checks.dueThrow("exchange(8)", INDEX, () -> x.exchange(8, 0, 0, 0));
        checks.dueThrow("exchange(-1)", INDEX, () -> x.exchange(-1, 0, 0, 0));
        checks.due("agreeing() of eight", 255, x.agreeing());
    }

    private void whatAServerHas() {
        Clockhouse x = new Clockhouse();
        x.addServer(14, -1000000, 1000000, 999999);
        x.pass(1000001);
        x.exchange(0, 0, 0, 0);
        checks.due("offset(0)", -1000000, x.offset(0));
        checks.due("distance(0)", 500000 + 999999, x.distance(0));
        x.synchronize();
        checks.due("stratum()", 15, x.stratum());
        Clockhouse ahead = new Clockhouse();
        ahead.restart(LONGEST);
        ahead.addServer(1, 1000000, 0, 0);
        ahead.exchange(0, 0, 0, 0);
        checks.due("offset(0): true time plus the error, not the clock", 1000000 - LONGEST, ahead.offset(0));
    }

    /** A clock that loses 3 in 10000, so that each of the four readings shows. */
    private void readingsOfAnExchange() {
        Clockhouse x = new Clockhouse();
        x.setDrift(-300);
        x.addServer(1, 500, 0, 0);
        x.pass(10000);
        checks.due("clock(), t1", 9997, x.clock());
        checks.due("exchange, t4 is 49985", 29988, x.exchange(0, 10000, 10000, 20000));
        checks.due("clock(), t4", 49985, x.clock());
        checks.due("trueTime()", 50000, x.trueTime());
        checks.due("offset: 20500 - 9997 and 30500 - 49985", (10503 - 19485 - 1) / 2, x.offset(0));
        Clockhouse none = new Clockhouse();
        none.addServer(1, 500, 0, 0);
        checks.due("exchange in no time", 0, none.exchange(0, 0, 0, 0));
        checks.due("trueTime()", 0, none.trueTime());
        checks.due("offset(0)", 500, none.offset(0));
        Clockhouse slewed = synchronizedBy(10);
        checks.due("exchange in a slew of 5, 5 and no more", 20000 + 10, slewed.exchange(0, 10000, 0, 10000));
        checks.due("clock()", 20010, slewed.clock());
        checks.due("offset: 10010 and 10010 - 20010", 5, slewed.offset(0));
        Clockhouse readings = new Clockhouse();
        readings.setDrift(300);
        readings.addServer(1, 0, 0, 0);
        readings.pass(3333);
        checks.due("exchange from 3333.9999 to 3335.0002", 2, readings.exchange(0, 1, 0, 0));
    }

    private static Clockhouse exchanged(int drift, int out, int processing, int back) {
        Clockhouse x = new Clockhouse();
        x.setDrift(drift);
        x.addServer(1, 0, 0, 0);
        x.exchange(0, out, processing, back);
        return x;
    }

    private void sample() {
        checks.due("offset of (100 + -30) / 2", 35, exchanged(0, 100, 0, 30).offset(0));
        checks.due("offset of (30 + -100) / 2", -35, exchanged(0, 30, 0, 100).offset(0));
        checks.due("offset of (0 + -1) / 2", -1, exchanged(0, 0, 0, 1).offset(0));
        checks.due("offset of (1 + 0) / 2", 0, exchanged(0, 1, 0, 0).offset(0));
        checks.due("delay less the processing", 130, exchanged(0, 100, 100000, 30).delay(0));
        checks.due("delay of -1, but at least 0", 0, exchanged(-300, 0, 1, 0).delay(0));
        checks.due("delay of -30, but at least 0", 0, exchanged(-300, 0, 100000, 0).delay(0));
        checks.due("delay of 1 - 1", 0, exchanged(-300, 1, 100, 0).delay(0));
        checks.due("delay of 2 - 1", 1, exchanged(-300, 2, 100, 0).delay(0));
        checks.due("the offset is left as it is then", 15, exchanged(-300, 0, 100000, 0).offset(0));
        Clockhouse x = exchanged(0, 500000, 100000, 500000);
        checks.due("distance, the age is 0 at t4", 500000, x.distance(0));
        x.pass(66666);
        checks.due("distance, the age is 66666", 500000, x.distance(0));
        x.pass(1);
        checks.due("distance, the age is 66667", 500001, x.distance(0));
    }

    private void lastEight() {
        Clockhouse x = new Clockhouse();
        x.addServer(1, 33, 0, 0);
        x.exchange(0, 0, 0, 0);
        x.setError(0, 0);
        for (int n = 1; n < 8; n++) {
            x.exchange(0, n, 0, n);
        }
        checks.due("samples(0) of eight", 8, x.samples(0));
        checks.due("offset(0) of the first", 33, x.offset(0));
        checks.due("jitter(0) with the first: 7 * 33 / 7", 33, x.jitter(0));
        x.exchange(0, 8, 0, 8);
        checks.due("samples(0) of nine", 8, x.samples(0));
        checks.due("offset(0), the first has gone", 0, x.offset(0));
        checks.due("delay(0), the second is there", 2, x.delay(0));
        checks.due("jitter(0) without the first", 0, x.jitter(0));
        x.exchange(0, 9, 0, 9);
        checks.due("delay(0), the second has gone", 4, x.delay(0));
        for (int n = 10; n < 18; n++) {
            x.exchange(0, n, 0, n);
            checks.due("delay(0) of the eldest of eight", 2 * (n - 7), x.delay(0));
        }
        x.addServer(1, 0, 0, 0);
        x.exchange(1, 0, 0, 0);
        checks.due("samples(0), of each server", 8, x.samples(0));
        checks.due("samples(1)", 1, x.samples(1));
    }

    private static void sampleOf(Clockhouse x, int delay, int error) {
        x.setError(0, error);
        x.exchange(0, delay / 2, 0, delay / 2);
    }

    private void bestSample() {
        Clockhouse x = new Clockhouse();
        x.addServer(1, 0, 0, 0);
        sampleOf(x, 20, 1);
        checks.due("offset(0) of one", 1, x.offset(0));
        sampleOf(x, 22, 2);
        checks.due("offset(0), a greater delay", 1, x.offset(0));
        sampleOf(x, 20, 3);
        checks.due("offset(0), an equal delay, taken last", 3, x.offset(0));
        sampleOf(x, 20, 4);
        checks.due("offset(0), the last of three", 4, x.offset(0));
        sampleOf(x, 18, 5);
        checks.due("offset(0), a lesser delay", 5, x.offset(0));
        sampleOf(x, 20, 6);
        checks.due("offset(0), a greater delay", 5, x.offset(0));
        sampleOf(x, 0, 7);
        sampleOf(x, 0, 8);
        checks.due("offset(0), the last of two in no time", 8, x.offset(0));
        for (int n = 0; n < 7; n++) {
            sampleOf(x, 30, 10 + n);
        }
        checks.due("offset(0), the best is the eldest", 8, x.offset(0));
        sampleOf(x, 30, 17);
        checks.due("offset(0), all are equal, the last", 17, x.offset(0));
    }

    private void ofTheBestSample() {
        Clockhouse x = new Clockhouse();
        x.addServer(1, 0, 0, 0);
        sampleOf(x, 40, -700);
        sampleOf(x, 60, 900);
        checks.due("offset(0)", -700, x.offset(0));
        checks.due("delay(0)", 40, x.delay(0));
        sampleOf(x, 38, 500);
        checks.due("offset(0)", 500, x.offset(0));
        checks.due("delay(0)", 38, x.delay(0));
    }

    private static long jitterOf(int... errors) {
        Clockhouse x = new Clockhouse();
        x.addServer(1, 0, 0, 0);
        for (int n = 0; n < errors.length; n++) {
            sampleOf(x, n == 0 ? 0 : 2, errors[n]);
        }
        return x.jitter(0);
    }

    private void jitterOfSamples() {
        checks.due("jitter of one sample", 0, jitterOf(1000));
        checks.due("jitter of two: 1 / 1", 1, jitterOf(1000, 1001));
        checks.due("jitter of two, below: 1 / 1", 1, jitterOf(1000, 999));
        checks.due("jitter of three, without sign: 20 / 2", 10, jitterOf(0, 10, -10));
        checks.due("jitter of three, rounded down: 3 / 2", 1, jitterOf(0, 1, 2));
        checks.due("jitter of three: 1 / 2", 0, jitterOf(0, 1, 0));
        checks.due("jitter of eight: 7 / 7", 1, jitterOf(0, 1, 1, 1, 1, 1, 1, 1));
        checks.due("jitter of eight: 6 / 7", 0, jitterOf(0, 1, 1, 1, 1, 1, 1, 0));
        checks.due("jitter of the greatest offsets", 2000000, jitterOf(-1000000, 1000000, 1000000));
        checks.due("jitter of nine is that of the last eight: 49 / 7", 7, jitterOf(9000, 0, 0, 0, 0, 0, 0, 0, -7));
        Clockhouse x = new Clockhouse();
        x.addServer(1, 0, 0, 0);
        sampleOf(x, 2, 10);
        sampleOf(x, 0, 16);
        sampleOf(x, 2, 20);
        checks.due("jitter by the best sample: (6 + 4) / 2", 5, x.jitter(0));
    }

    private static Clockhouse aged(int micros) {
        Clockhouse x = new Clockhouse();
        x.addServer(1, 0, 0, 0);
        x.exchange(0, 0, 0, 0);
        x.pass(micros);
        return x;
    }

    private static long distanceOf(int rootDelay, int rootDispersion, int out) {
        Clockhouse x = new Clockhouse();
        x.addServer(1, 0, rootDelay, rootDispersion);
        x.exchange(0, out, 0, 0);
        return x.distance(0);
    }

    private void partsOfTheDistance() {
        checks.due("distance of nothing", 0, distanceOf(0, 0, 0));
        checks.due("root delay 1 / 2 and delay 1 / 2, each by itself", 0, distanceOf(1, 0, 1));
        checks.due("root delay 3 / 2 and delay 3 / 2, each by itself", 2, distanceOf(3, 0, 3));
        checks.due("root dispersion, undivided", 1, distanceOf(0, 1, 0));
        checks.due("the greatest at once", 500000 + 250000 + 1000000, distanceOf(1000000, 1000000, 500000));
        checks.due("age 66666: 999990 / 1000000", 0, aged(66666).distance(0));
        checks.due("age 66667: 1000005 / 1000000", 1, aged(66667).distance(0));
        checks.due("age 1000000", 15, aged(1000000).distance(0));
        checks.due("age 1000000000, above the greatest int", 15000, aged(LONGEST).distance(0));
        Clockhouse fast = new Clockhouse();
        fast.setDrift(300);
        fast.addServer(1, 0, 0, 0);
        fast.exchange(0, 0, 0, 0);
        fast.pass(66650);
        checks.due("age by the clock, which reads 66669", 1, fast.distance(0));
        Clockhouse best = aged(66667);
        best.exchange(0, 50, 0, 50);
        checks.due("age of the best sample, not of the last", 1, best.distance(0) - best.jitter(0));
        Clockhouse shaken = new Clockhouse();
        heardTwice(shaken, 0, 7, 5);
        checks.due("jitter and root dispersion", 12, shaken.distance(0));
        Clockhouse parts = new Clockhouse();
        heardTwice(parts, 0, 0, 0);
        parts.addServer(1, 0, 1, 0);
        parts.exchange(1, 1, 0, 0);
        parts.pass(66666);
        checks.due("three that are less than 1 each", 0, parts.distance(1));
    }

    // ---- promises

    private void addServer() {
        Clockhouse x = new Clockhouse();
        checks.due("addServer", 0, x.addServer(3, 5, 7, 9));
        checks.due("servers()", 1, x.servers());
        checks.due("samples(0)", 0, x.samples(0));
        checks.due("agreement(), a server without a sample is no candidate", 0, x.agreement());
        checks.due("setError(0, 0), the error", 5, x.setError(0, 0));
        x.exchange(0, 0, 0, 0);
        checks.due("distance(0)", 3 + 9, x.distance(0));
        Clockhouse again = new Clockhouse();
        heardTwice(again, 800, 70, 60);
        again.restart(0);
        again.addServer(3, 5, 7, 9);
        again.exchange(0, 0, 0, 0);
        checks.due("samples(0), nothing of the server before restart", 1, again.samples(0));
        checks.due("offset(0), nothing of it", 5, again.offset(0));
        checks.due("distance(0), nothing of it", 3 + 9, again.distance(0));
    }

    private void strata() {
        int[] taken = {1, 2, 13, 14};
        for (int stratum : taken) {
            Clockhouse x = new Clockhouse();
            heard(x, stratum, 0, 0);
            x.synchronize();
            checks.due("stratum() by " + stratum, stratum + 1, x.stratum());
        }
        checks.dueThrow("stratum 0", ARGUMENT, () -> new Clockhouse().addServer(0, 0, 0, 0));
        checks.dueThrow("stratum 15", ARGUMENT, () -> new Clockhouse().addServer(15, 0, 0, 0));
    }

    private void errors() {
        int[] taken = {-1000000, -999999, 0, 999999, 1000000};
        for (int error : taken) {
            Clockhouse x = new Clockhouse();
            heard(x, 1, error, 0);
            checks.due("offset(0) by " + error, error, x.offset(0));
        }
        checks.dueThrow("error -1000001", ARGUMENT, () -> new Clockhouse().addServer(1, -1000001, 0, 0));
        checks.dueThrow("error 1000001", ARGUMENT, () -> new Clockhouse().addServer(1, 1000001, 0, 0));
    }

    private void rootDelays() {
        int[] taken = {0, 1, 2, 999999, 1000000};
        for (int rootDelay : taken) {
            checks.due("distance(0) by " + rootDelay, rootDelay / 2, distanceOf(rootDelay, 0, 0));
        }
        checks.dueThrow("rootDelay -1", ARGUMENT, () -> new Clockhouse().addServer(1, 0, -1, 0));
        checks.dueThrow("rootDelay 1000001", ARGUMENT, () -> new Clockhouse().addServer(1, 0, 1000001, 0));
    }

    private void rootDispersions() {
        int[] taken = {0, 1, 999999, 1000000};
        for (int rootDispersion : taken) {
            checks.due("distance(0) by " + rootDispersion, rootDispersion, distanceOf(0, rootDispersion, 0));
        }
        checks.dueThrow("rootDispersion -1", ARGUMENT, () -> new Clockhouse().addServer(1, 0, 0, -1));
        checks.dueThrow("rootDispersion 1000001", ARGUMENT, () -> new Clockhouse().addServer(1, 0, 0, 1000001));
    }

    private void numbers() {
        Clockhouse x = new Clockhouse();
        for (int s = 0; s < 8; s++) {
            checks.dueThrow("addServer, refused, takes no number", ARGUMENT, () -> x.addServer(0, 0, 0, 0));
            checks.due("addServer", s, x.addServer(1, 0, 0, 0));
        }
        x.restart(0);
        checks.due("addServer after restart", 0, x.addServer(1, 0, 0, 0));
    }

    private void wrongServers() {
        for (int stratum : NOT_STRATA) {
            dueRefused("stratum " + stratum, ARGUMENT, Scenes::busy, x -> x.addServer(stratum, 0, 0, 0));
        }
        for (int error : NOT_ERRORS) {
            dueRefused("error " + error, ARGUMENT, Scenes::busy, x -> x.addServer(1, error, 0, 0));
        }
        for (int root : NOT_ROOTS) {
            dueRefused("rootDelay " + root, ARGUMENT, Scenes::busy, x -> x.addServer(1, 0, root, 0));
            dueRefused("rootDispersion " + root, ARGUMENT, Scenes::busy, x -> x.addServer(1, 0, 0, root));
        }
    }

    private void theNinth() {
        dueRefused("addServer, the ninth", STATE, Scenes::full, x -> x.addServer(1, 0, 0, 0));
        checks.due("addServer, the eighth", 7, withServers(7).addServer(1, 0, 0, 0));
        Clockhouse x = full();
        x.synchronize();
        checks.dueThrow("addServer, samples forgotten make no room", STATE, () -> x.addServer(1, 0, 0, 0));
        x.restart(0);
        checks.due("addServer after restart", 0, x.addServer(1, 0, 0, 0));
    }

    private void setError() {
        Clockhouse x = new Clockhouse();
        heard(x, 1, 12, 0);
        heard(x, 1, 34, 0);
        x.setError(0, 56);
        checks.due("offset(0) of the sample before", 12, x.offset(0));
        x.exchange(0, 0, 0, 0);
        x.exchange(1, 0, 0, 0);
        checks.due("offset(0)", 56, x.offset(0));
        checks.due("offset(1) of the other", 34, x.offset(1));
        x.synchronize();
        x.exchange(0, 0, 0, 0);
        checks.due("offset(0), the error stays", 56, x.offset(0));
    }

    private void changedErrors() {
        int[] taken = {-1000000, -999999, 0, 999999, 1000000};
        for (int error : taken) {
            Clockhouse x = withServers(1);
            hearAgain(x, 0, error);
            checks.due("offset(0) by " + error, error, x.offset(0));
        }
    }

    private void previousError() {
        Clockhouse x = withServers(8);
        checks.due("setError(7, -1000000), the first", 70, x.setError(7, -1000000));
        checks.due("setError(7, 1000000)", -1000000, x.setError(7, 1000000));
        checks.due("setError(7, 5)", 1000000, x.setError(7, 5));
        checks.dueThrow("setError(7, 1000001)", ARGUMENT, () -> x.setError(7, 1000001));
        checks.due("setError(7, 5), a refused one is none", 5, x.setError(7, 5));
        checks.due("setError(0, 1) of another", 0, x.setError(0, 1));
    }

    private void setErrorOfNoServer() {
        dueNoServer("setError", (x, s) -> x.setError(s, 3));
    }

    private void wrongErrors() {
        for (int error : NOT_ERRORS) {
            dueRefused("setError(0, " + error + ")", ARGUMENT, Scenes::busy, x -> x.setError(0, error));
            dueRefused("setError(7, " + error + ")", ARGUMENT, Scenes::full, x -> x.setError(7, error));
        }
    }

    private void exchange() {
        Clockhouse x = withServers(2);
        x.exchange(1, 5, 6, 7);
        checks.due("samples(1)", 1, x.samples(1));
        checks.due("samples(0)", 0, x.samples(0));
        checks.due("trueTime()", 18, x.trueTime());
        checks.due("clock()", 18, x.clock());
        checks.due("offset(1)", 9, x.offset(1));
    }

    private void outs() {
        int[] taken = {0, 1, 499999, 500000};
        for (int out : taken) {
            Clockhouse x = withServers(1);
            checks.due("exchange, out " + out, out, x.exchange(0, out, 0, 0));
            checks.due("offset(0), out " + out, out / 2, x.offset(0));
            checks.due("trueTime(), out " + out, out, x.trueTime());
        }
        checks.dueThrow("out -1", ARGUMENT, () -> withServers(1).exchange(0, -1, 0, 0));
        checks.dueThrow("out 500001", ARGUMENT, () -> withServers(1).exchange(0, 500001, 0, 0));
    }

    private void processings() {
        int[] taken = {0, 1, 99999, 100000};
        for (int processing : taken) {
            Clockhouse x = withServers(1);
            checks.due("exchange, processing " + processing, 0, x.exchange(0, 0, processing, 0));
            checks.due("offset(0), processing " + processing, 0, x.offset(0));
            checks.due("trueTime(), processing " + processing, processing, x.trueTime());
        }
        checks.dueThrow("processing -1", ARGUMENT, () -> withServers(1).exchange(0, 0, -1, 0));
        checks.dueThrow("processing 100001", ARGUMENT, () -> withServers(1).exchange(0, 0, 100001, 0));
    }

    private void backs() {
        int[] taken = {0, 1, 499999, 500000};
        for (int back : taken) {
            Clockhouse x = withServers(1);
            checks.due("exchange, back " + back, back, x.exchange(0, 0, 0, back));
            checks.due("offset(0), back " + back, -(back + 1) / 2, x.offset(0));
            checks.due("trueTime(), back " + back, back, x.trueTime());
        }
        checks.dueThrow("back -1", ARGUMENT, () -> withServers(1).exchange(0, 0, 0, -1));
        checks.dueThrow("back 500001", ARGUMENT, () -> withServers(1).exchange(0, 0, 0, 500001));
    }

    private void delayOfTheSample() {
        Clockhouse x = withServers(1);
        checks.due("exchange, the least", 0, x.exchange(0, 0, 100000, 0));
        checks.due("exchange, the greatest, not the best sample's", 1000000, x.exchange(0, 500000, 100000, 500000));
        checks.due("delay(0)", 0, x.delay(0));
        x.setDrift(-300);
        checks.due("exchange, -30, but at least 0", 0, x.exchange(0, 0, 100000, 0));
        x.setDrift(300);
        checks.due("exchange of a fast clock", 30, x.exchange(0, 0, 100000, 0));
    }

    private void exchangeWithNoServer() {
        dueNoServer("exchange", (x, s) -> x.exchange(s, 1, 2, 3));
    }

    private void wrongExchanges() {
        for (int way : NOT_WAYS) {
            dueRefused("out " + way, ARGUMENT, Scenes::busy, x -> x.exchange(0, way, 0, 0));
            dueRefused("back " + way, ARGUMENT, Scenes::busy, x -> x.exchange(0, 0, 0, way));
        }
        for (int processing : NOT_PROCESSING) {
            dueRefused("processing " + processing, ARGUMENT, Scenes::busy, x -> x.exchange(0, 0, processing, 0));
        }
        int[][] whoseSumIsInRange = {{-1, 2, 2}, {2, -1, 2}, {2, 2, -1}, {500001, -1, 0}, {0, -1, 500001},
            {Integer.MIN_VALUE, Integer.MIN_VALUE, 0}, {Integer.MAX_VALUE, Integer.MAX_VALUE, 2}};
        for (int[] w : whoseSumIsInRange) {
            dueRefused("exchange(0, " + w[0] + ", " + w[1] + ", " + w[2] + ")", ARGUMENT, Scenes::busy,
                    x -> x.exchange(0, w[0], w[1], w[2]));
        }
    }

    private void exchangeBeyondTheEnd() {
        int[][] beyond = {{4, 4, 3}, {11, 0, 0}, {0, 11, 0}, {0, 0, 11}, {10, 0, 1}, {500000, 100000, 500000}};
        for (int[] b : beyond) {
            dueRefused("exchange(0, " + b[0] + ", " + b[1] + ", " + b[2] + "), 10 are left", STATE,
                    () -> beforeTheEndOfTime(10), x -> x.exchange(0, b[0], b[1], b[2]));
        }
        int[][] taken = {{4, 3, 3}, {10, 0, 0}, {0, 10, 0}, {0, 0, 10}};
        for (int[] t : taken) {
            Clockhouse x = beforeTheEndOfTime(10);
            checks.due("exchange to the end", t[0] + t[2], x.exchange(0, t[0], t[1], t[2]));
            checks.due("trueTime()", END_OF_TIME, x.trueTime());
            checks.due("exchange in no time, at the end", 0, x.exchange(0, 0, 0, 0));
        }
    }

    private void servers() {
        Clockhouse x = new Clockhouse();
        checks.due("servers() at first", 0, x.servers());
        for (int s = 0; s < 8; s++) {
            x.addServer(1, 0, 0, 0);
            checks.due("servers()", s + 1, x.servers());
            checks.dueThrow("addServer, refused", ARGUMENT, () -> x.addServer(15, 0, 0, 0));
            checks.due("servers()", s + 1, x.servers());
        }
        checks.dueThrow("addServer, the ninth", STATE, () -> x.addServer(1, 0, 0, 0));
        checks.due("servers() when full", 8, x.servers());
        x.exchange(0, 0, 0, 0);
        x.synchronize();
        checks.due("servers(), samples forgotten", 8, x.servers());
        x.restart(0);
        checks.due("servers() after restart", 0, x.servers());
    }

    private void samples() {
        Clockhouse x = withServers(8);
        for (int n = 0; n < 11; n++) {
            checks.due("samples(7)", Math.min(n, 8), x.samples(7));
            x.exchange(7, 1, 1, 1);
        }
        checks.due("samples(0) of another", 0, x.samples(0));
        checks.dueThrow("exchange, refused", ARGUMENT, () -> x.exchange(0, -1, 0, 0));
        checks.due("samples(0) after it", 0, x.samples(0));
        x.synchronize();
        checks.due("samples(7), forgotten", 0, x.samples(7));
        x.exchange(7, 1, 1, 1);
        checks.due("samples(7), from the first again", 1, x.samples(7));
    }

    private void offset() {
        Clockhouse x = new Clockhouse();
        x.restart(-LONGEST);
        heard(x, 1, 1000000, 0);
        checks.due("offset(0), the greatest at first", LONGEST + 1000000, x.offset(0));
        x.restart(LONGEST);
        heard(x, 1, -1000000, 0);
        checks.due("offset(0), the least at first", -LONGEST - 1000000, x.offset(0));
        checks.due("offset(0), rounded down", -1, exchanged(0, 0, 0, 1).offset(0));
        x.pass(1000);
        checks.due("offset(0), as it was taken", -LONGEST - 1000000, x.offset(0));
    }

    private void delay() {
        checks.due("delay(0), the least", 0, exchanged(0, 0, 0, 0).delay(0));
        checks.due("delay(0), the greatest", 1000300, exchanged(300, 500000, 0, 500000).delay(0));
        checks.due("delay(0), of the clock's time", 1000330, exchanged(300, 500000, 100000, 500000).delay(0));
        checks.due("delay(0), at least 0", 0, exchanged(-300, 0, 100000, 0).delay(0));
    }

    private void jitter() {
        checks.due("jitter(0) of one sample", 0, jitterOf(-5));
        checks.due("jitter(0) of two", 9, jitterOf(-5, 4));
        checks.due("jitter(0) of eight", 4, jitterOf(0, 4, 4, 4, 4, 4, 4, 4));
        Clockhouse x = new Clockhouse();
        heardTwice(x, 10, 0, 6);
        checks.due("jitter(0)", 6, x.jitter(0));
        x.synchronize();
        hearAgain(x, 0, 50);
        checks.due("jitter(0) of one sample, the others are forgotten", 0, x.jitter(0));
    }

    private void distance() {
        checks.due("distance(0), the least", 0, aged(1).distance(0));
        Clockhouse x = aged(LONGEST);
        passMany(x, 300, LONGEST);
        checks.due("distance(0) of 301000 seconds", 15L * 301000, x.distance(0));
        x.synchronize();
        x.setError(0, 0);
        x.exchange(0, 0, 0, 0);
        checks.due("distance(0) of a new sample", 0, x.distance(0));
        Clockhouse stepped = new Clockhouse();
        stepped.restart(-1000000);
        heard(stepped, 1, 0, 0);
        stepped.synchronize();
        stepped.exchange(0, 0, 0, 0);
        checks.due("distance(0) behind a step", 0, stepped.distance(0));
    }
}
