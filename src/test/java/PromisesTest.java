/** Each promise of the document by itself: ordinary inputs, the edges it names, wrong inputs. */
public final class PromisesTest extends Scenes {
    private static final Checks checks = new Checks();

    public static void main(String[] args) {
        newObject();
        restart();
        restartForgetsAll();
        pass();
        passAtTheEndOfTime();
        setDrift();
        clockAndError();
        slewing();
        announceLeap();
        civil();
        addServer();
        setError();
        exchange();
        exchangeAtTheEndOfTime();
        exchangeOfAClockThatErrs();
        samples();
        bestSample();
        jitter();
        distance();
        agreement();
        lowAndHigh();
        survivors();
        survivorsWithJitter();
        survivorsWithJitterOfTheFirst();
        combinedOffset();
        peer();
        askedAlone();
        nothingSelected();
        synchronizeBySlewing();
        synchronizeByStepping();
        correctionOfTheRate();
        correctionIsHeld();
        peerOfASynchronization();
        failedCallsChangeNothing();
        checks.end("PromisesTest");
    }

    // ---- time

    private static void newObject() {
        checks.promise("promise 1");
        dueAsNew("new", new Clockhouse(), 0);
    }

    private static void dueAsNew(String when, Clockhouse x, int reading) {
        checks.due(when + " trueTime()", 0, x.trueTime());
        checks.due(when + " clock()", reading, x.clock());
        checks.due(when + " error()", reading, x.error());
        checks.due(when + " civil()", reading, x.civil());
        checks.due(when + " pendingSlew()", 0, x.pendingSlew());
        checks.due(when + " correction()", 0, x.correction());
        checks.due(when + " servers()", 0, x.servers());
        checks.dueThrow(when + " samples(0)", INDEX, () -> x.samples(0));
        checks.due(when + " agreement()", 0, x.agreement());
        checks.due(when + " hasMajority()", false, x.hasMajority());
        checks.due(when + " agreeing()", 0, x.agreeing());
        checks.due(when + " survivors()", 0, x.survivors());
        checks.due(when + " peer()", Clockhouse.NONE, x.peer());
        checks.due(when + " stratum()", 16, x.stratum());
        checks.due(when + " steps()", 0, x.steps());
        checks.due(when + " synchronizations()", 0, x.synchronizations());
        checks.due(when + " setDrift(0)", 0, x.setDrift(0));
    }

    private static void restart() {
        checks.promise("promise 2");
        int[] readings = {0, 1, -1, 5000000, -5000000, 1000000000, -1000000000};
        for (int reading : readings) {
            Clockhouse x = new Clockhouse();
            x.restart(reading);
            dueAsNew("restart(" + reading + ")", x, reading);
        }
        int[] wrong = {1000000001, -1000000001, Integer.MAX_VALUE, Integer.MIN_VALUE};
        for (int reading : wrong) {
            Clockhouse x = new Clockhouse();
            x.pass(17);
            checks.dueThrowOf("restart(" + reading + ")", ARGUMENT, () -> x.restart(reading));
            checks.due("trueTime() then", 17, x.trueTime());
            checks.due("clock() then", 17, x.clock());
        }
    }

    private static void restartForgetsAll() {
        checks.promise("promise 2");
        Clockhouse x = new Clockhouse();
        x.setDrift(250);
        x.announceLeap(0, true);
        x.announceLeap(1, false);
        heard(x, 3, 1000000, 5);
        x.synchronize();
        x.pass(100000000);
        x.setError(0, 2000000 / 2 - 3000);
        x.exchange(0, 5, 5, 5);
        x.synchronize();
        x.exchange(0, 5, 5, 5);
        checks.due("steps() before", 1, x.steps());
        checks.due("stratum() before", 4, x.stratum());
        checks.due("correction() is not 0 before", true, x.correction() != 0);
        checks.due("pendingSlew() is not 0 before", true, x.pendingSlew() != 0);
        x.restart(-700);
        dueAsNew("restart(-700)", x, -700);
        checks.due("pass(1000000) goes at the plain rate", 999300, x.pass(1000000));
        checks.due("announceLeap(0, false) is free again", 66400000000L, x.announceLeap(0, false));
        checks.due("announceLeap(1, true) is free again", 152800000000L, x.announceLeap(1, true));
        checks.due("addServer is 0 again", 0, x.addServer(2, 0, 0, 0));
        checks.due("samples(0)", 0, x.samples(0));
        x.exchange(0, 0, 0, 0);
        x.synchronize();
        checks.due("correction() of a first synchronization", 0, x.correction());
        checks.due("synchronizations()", 1, x.synchronizations());
    }

    private static void pass() {
        checks.promise("promise 3");
        Clockhouse x = new Clockhouse();
        checks.due("pass(1)", 1, x.pass(1));
        checks.due("pass(999)", 1000, x.pass(999));
        checks.due("pass(1000000000)", 1000001000, x.pass(1000000000));
        int[] wrong = {0, -1, 1000000001, Integer.MAX_VALUE, Integer.MIN_VALUE};
        for (int micros : wrong) {
            checks.dueThrow("pass(" + micros + ")", ARGUMENT, () -> x.pass(micros));
        }
        checks.due("clock()", 1000001000, x.clock());
        checks.promise("promise 5");
        checks.due("trueTime()", 1000001000, x.trueTime());
    }

    /** More calls than the document promises anything for; the end of true time lies behind them. */
    private static void passAtTheEndOfTime() {
        checks.promise("promise 3");
        Clockhouse x = new Clockhouse();
        passMany(x, 999, 1000000000);
        checks.due("pass(999999999)", 999999999999L, x.pass(999999999));
        checks.dueThrow("pass(2)", STATE, () -> x.pass(2));
        checks.due("pass(1)", 1000000000000L, x.pass(1));
        checks.dueThrow("pass(1)", STATE, () -> x.pass(1));
        checks.dueThrow("pass(1000000000)", STATE, () -> x.pass(1000000000));
        checks.dueThrow("pass(0)", ARGUMENT, () -> x.pass(0));
        checks.due("trueTime()", 1000000000000L, x.trueTime());
    }

    private static void setDrift() {
        checks.promise("promise 4");
        Clockhouse x = new Clockhouse();
        checks.due("setDrift(300)", 0, x.setDrift(300));
        checks.due("setDrift(-300)", 300, x.setDrift(-300));
        checks.due("setDrift(7)", -300, x.setDrift(7));
        int[] wrong = {301, -301, Integer.MAX_VALUE, Integer.MIN_VALUE};
        for (int drift : wrong) {
            checks.dueThrow("setDrift(" + drift + ")", ARGUMENT, () -> x.setDrift(drift));
        }
        checks.due("pass(1000000)", 1000007, x.pass(1000000));
        checks.due("setDrift(0)", 7, x.setDrift(0));
        checks.due("pass(1000000)", 2000007, x.pass(1000000));
    }

    private static void clockAndError() {
        checks.promise("promise 6");
        Clockhouse x = new Clockhouse();
        x.setDrift(-300);
        checks.due("pass(1) of 999700 picoseconds", 0, x.pass(1));
        checks.due("clock()", 0, x.clock());
        checks.promise("promise 7");
        checks.due("error()", -1, x.error());
        checks.promise("promise 6");
        x.setDrift(300);
        checks.due("pass(1) makes them whole", 2, x.pass(1));
        checks.due("clock()", 2, x.clock());
        x.restart(-1);
        x.setDrift(-300);
        checks.due("pass(1) to 300 picoseconds below 0", -1, x.pass(1));
        checks.due("clock()", -1, x.clock());
        checks.due("pass(1)", 0, x.pass(1));
        checks.promise("promise 7");
        x.restart(-1000);
        checks.due("error()", -1000, x.error());
        x.setDrift(300);
        x.pass(10000000);
        checks.due("error()", 2000, x.error());
        checks.due("trueTime()", 10000000, x.trueTime());
    }

    private static void slewing() {
        checks.promise("promise 8");
        Clockhouse x = synchronizedBy(128);
        checks.due("pendingSlew()", 128, x.pendingSlew());
        checks.due("pass(1)", 1, x.pass(1));
        checks.due("pendingSlew() of 127.9995", 127, x.pendingSlew());
        checks.due("pass(1999)", 2001, x.pass(1999));
        checks.due("pendingSlew()", 127, x.pendingSlew());
        checks.due("pass(253999)", 256126, x.pass(253999));
        checks.due("pendingSlew() of 0.0005", 0, x.pendingSlew());
        checks.due("pass(1)", 256128, x.pass(1));
        checks.due("pass(1000000)", 1256128, x.pass(1000000));
        Clockhouse y = synchronizedBy(-128);
        checks.due("pendingSlew()", -128, y.pendingSlew());
        checks.due("pass(1)", 0, y.pass(1));
        checks.due("pendingSlew() of -127.9995", -127, y.pendingSlew());
        checks.due("pass(255999)", 255872, y.pass(255999));
        checks.due("pendingSlew()", 0, y.pendingSlew());
        checks.due("pass(1000)", 256872, y.pass(1000));
        Clockhouse z = synchronizedBy(-1000);
        checks.due("pass(1000000000) takes all of it", 999999000, z.pass(1000000000));
        checks.due("pendingSlew()", 0, z.pendingSlew());
    }

    // ---- leap seconds

    private static void announceLeap() {
        checks.promise("promise 10");
        Clockhouse x = new Clockhouse();
        for (int day = 0; day <= 20; day++) {
            checks.due("announceLeap", 86400000000L * day + 66400000000L, x.announceLeap(day, day % 3 == 0));
        }
        for (int day = 0; day <= 20; day++) {
            int again = day;
            checks.dueThrow("announceLeap a second time", STATE, () -> x.announceLeap(again, true));
            checks.dueThrow("announceLeap a second time", STATE, () -> x.announceLeap(again, false));
        }
        int[] wrong = {-1, 21, 31, 32, 33, Integer.MAX_VALUE, Integer.MIN_VALUE};
        for (int day : wrong) {
            checks.dueThrow("announceLeap(" + day + ")", ARGUMENT, () -> x.announceLeap(day, true));
        }
        Clockhouse early = new Clockhouse();
        passMany(early, 66, 1000000000);
        early.pass(399999999);
        checks.due("announceLeap(0) one before", 66400000000L, early.announceLeap(0, true));
        Clockhouse late = new Clockhouse();
        passMany(late, 66, 1000000000);
        late.pass(400000000);
        checks.dueThrow("announceLeap(0) at its beginning", STATE, () -> late.announceLeap(0, true));
        checks.due("announceLeap(1)", 152800000000L, late.announceLeap(1, false));
        passMany(late, 30, 1000000000);
        checks.dueThrow("announceLeap(0) behind it", STATE, () -> late.announceLeap(0, true));
    }

    private static void civil() {
        checks.promise("promise 11");
        Clockhouse x = new Clockhouse();
        x.announceLeap(0, true);
        x.announceLeap(1, true);
        x.announceLeap(2, false);
        checks.due("civil()", 0, x.civil());
        passMany(x, 66, 1000000000);
        x.pass(400000000);
        checks.due("civil() at the beginning", 66400000000L, x.civil());
        x.pass(19999);
        checks.due("civil() before the first microsecond", 66400019999L, x.civil());
        x.pass(1);
        checks.due("civil() at the first microsecond", 66400019999L, x.civil());
        x.pass(999980000);
        checks.due("civil() after 1000 seconds", 67400000000L - 50000L, x.civil());
        passMany(x, 18, 1000000000);
        x.pass(999980000);
        checks.due("civil() one step before the end", 86399980000L - 999999L, x.civil());
        x.pass(19999);
        checks.due("civil() just before the end", 86399999999L - 999999L, x.civil());
        x.pass(1);
        checks.due("civil() at the end", 86400000000L - 1000000L, x.civil());
        passMany(x, 76, 1000000000);
        checks.due("civil() in the second smearing", 162400000000L - 1000000L - 480000L, x.civil());
        passMany(x, 60, 1000000000);
        checks.due("civil() behind the second", 222400000000L - 2000000L, x.civil());
        passMany(x, 18, 1000000000);
        checks.due("civil() in the third, a deleted one", 240400000000L - 2000000L + 60000L, x.civil());
        passMany(x, 60, 1000000000);
        checks.due("civil() behind all", 300400000000L - 1000000L, x.civil());
        checks.due("clock()", 300400000000L, x.clock());
        Clockhouse below = new Clockhouse();
        below.restart(-1000000000);
        below.announceLeap(0, false);
        checks.due("civil() below 0", -1000000000, below.civil());
    }

    // ---- servers

    private static void addServer() {
        checks.promise("promise 12");
        Clockhouse x = new Clockhouse();
        checks.dueThrow("addServer(0, 0, 0, 0)", ARGUMENT, () -> x.addServer(0, 0, 0, 0));
        checks.dueThrow("addServer(15, 0, 0, 0)", ARGUMENT, () -> x.addServer(15, 0, 0, 0));
        checks.dueThrow("addServer(1, 1000001, 0, 0)", ARGUMENT, () -> x.addServer(1, 1000001, 0, 0));
        checks.dueThrow("addServer(1, -1000001, 0, 0)", ARGUMENT, () -> x.addServer(1, -1000001, 0, 0));
        checks.dueThrow("addServer(1, 0, -1, 0)", ARGUMENT, () -> x.addServer(1, 0, -1, 0));
        checks.dueThrow("addServer(1, 0, 1000001, 0)", ARGUMENT, () -> x.addServer(1, 0, 1000001, 0));
        checks.dueThrow("addServer(1, 0, 0, -1)", ARGUMENT, () -> x.addServer(1, 0, 0, -1));
        checks.dueThrow("addServer(1, 0, 0, 1000001)", ARGUMENT, () -> x.addServer(1, 0, 0, 1000001));
        checks.promise("promise 15");
        checks.due("servers()", 0, x.servers());
        for (int s = 0; s < 8; s++) {
            checks.promise("promise 12");
            int end = s % 2 == 0 ? 1000000 : -1000000;
            checks.due("addServer", s, x.addServer(s % 2 == 0 ? 1 : 14, end, s * 100, Math.abs(end)));
            checks.promise("promise 15");
            checks.due("servers()", s + 1, x.servers());
        }
        checks.promise("promise 12");
        checks.dueThrow("addServer, the ninth", STATE, () -> x.addServer(1, 0, 0, 0));
        checks.dueThrow("addServer, the ninth and wrong", ARGUMENT, () -> x.addServer(0, 0, 0, 0));
        checks.promise("promise 15");
        checks.due("servers()", 8, x.servers());
    }

    private static void setError() {
        checks.promise("promise 13");
        Clockhouse x = new Clockhouse();
        x.addServer(1, 55, 0, 0);
        checks.due("setError(0, 1000000)", 55, x.setError(0, 1000000));
        checks.due("setError(0, -1000000)", 1000000, x.setError(0, -1000000));
        int[] wrong = {1000001, -1000001, Integer.MAX_VALUE, Integer.MIN_VALUE};
        for (int error : wrong) {
            checks.dueThrow("setError(0, " + error + ")", ARGUMENT, () -> x.setError(0, error));
        }
        for (int server : NO_SERVERS) {
            checks.dueThrow("setError(" + server + ", 0)", INDEX, () -> x.setError(server, 0));
            checks.dueThrow("setError(" + server + ", 1000001)", INDEX, () -> x.setError(server, 1000001));
        }
        checks.due("setError(0, 12)", -1000000, x.setError(0, 12));
        x.exchange(0, 0, 0, 0);
        checks.due("offset(0)", 12, x.offset(0));
        x.setError(0, 13);
        checks.due("offset(0) of the sample before", 12, x.offset(0));
        x.exchange(0, 0, 0, 0);
        checks.due("offset(0)", 13, x.offset(0));
    }

    private static void exchange() {
        checks.promise("promise 14");
        Clockhouse x = new Clockhouse();
        x.addServer(1, 300, 0, 0);
        checks.due("exchange(0, 1000, 70, 500)", 1500, x.exchange(0, 1000, 70, 500));
        checks.due("trueTime()", 1570, x.trueTime());
        checks.due("clock()", 1570, x.clock());
        checks.promise("promise 17");
        checks.due("offset(0)", 550, x.offset(0));
        checks.promise("promise 18");
        checks.due("delay(0)", 1500, x.delay(0));
        checks.promise("promise 17");
        x.setError(0, 0);
        x.exchange(0, 0, 0, 1);
        checks.due("offset(0) of -1 / 2", -1, x.offset(0));
        checks.promise("promise 14");
        checks.due("exchange(0, 500000, 100000, 500000)", 1000000, x.exchange(0, 500000, 100000, 500000));
        checks.due("exchange(0, 0, 0, 0)", 0, x.exchange(0, 0, 0, 0));
        int[][] wrong = {{-1, 0, 0}, {500001, 0, 0}, {0, -1, 0}, {0, 100001, 0}, {0, 0, -1}, {0, 0, 500001},
            {Integer.MAX_VALUE, 0, 0}, {0, Integer.MAX_VALUE, 0}, {0, 0, Integer.MAX_VALUE},
            {Integer.MIN_VALUE, Integer.MIN_VALUE, Integer.MIN_VALUE}};
        for (int[] w : wrong) {
            checks.dueThrow("exchange, wrong", ARGUMENT, () -> x.exchange(0, w[0], w[1], w[2]));
            checks.dueThrow("exchange, no server, wrong", INDEX, () -> x.exchange(1, w[0], w[1], w[2]));
        }
        for (int server : NO_SERVERS) {
            checks.dueThrow("exchange(" + server + ")", INDEX, () -> x.exchange(server, 0, 0, 0));
        }
        checks.due("samples(0)", 4, x.samples(0));
    }

    /** More calls than the document promises anything for; the end of true time lies behind them. */
    private static void exchangeAtTheEndOfTime() {
        checks.promise("promise 14");
        Clockhouse x = new Clockhouse();
        x.addServer(1, 0, 0, 0);
        passMany(x, 999, 1000000000);
        x.pass(999999990);
        checks.dueThrow("exchange beyond", STATE, () -> x.exchange(0, 4, 4, 3));
        checks.dueThrow("exchange far beyond", STATE, () -> x.exchange(0, 500000, 100000, 500000));
        checks.dueThrow("exchange beyond and wrong", ARGUMENT, () -> x.exchange(0, 500001, 0, 0));
        checks.dueThrow("exchange beyond, no server", INDEX, () -> x.exchange(1, 500000, 0, 0));
        checks.due("samples(0)", 0, x.samples(0));
        checks.due("trueTime()", 999999999990L, x.trueTime());
        checks.due("exchange to the end", 6, x.exchange(0, 3, 4, 3));
        checks.due("trueTime()", 1000000000000L, x.trueTime());
        checks.due("exchange in no time", 0, x.exchange(0, 0, 0, 0));
    }

    private static void exchangeOfAClockThatErrs() {
        checks.promise("promise 14");
        Clockhouse x = new Clockhouse();
        x.addServer(1, 0, 0, 0);
        x.setDrift(-300);
        checks.due("exchange, the delay would be below 0", 0, x.exchange(0, 0, 100000, 0));
        checks.promise("promise 17");
        checks.due("offset(0) of (0 + 30) / 2", 15, x.offset(0));
        checks.promise("promise 14");
        Clockhouse y = new Clockhouse();
        y.restart(-5000);
        y.setDrift(300);
        y.addServer(1, 40, 0, 0);
        checks.due("exchange(0, 100000, 100000, 200000)", 300120, y.exchange(0, 100000, 100000, 200000));
        checks.promise("promise 17");
        checks.due("offset(0) of (105040 - 195080) / 2 less the clock's", (105040 + 200040 - 395120) / 2, y.offset(0));
        checks.promise("promise 14");
        Clockhouse z = synchronizedBy(100);
        checks.due("exchange in a slew", 60000 + 30, z.exchange(0, 20000, 0, 40000));
        checks.due("pendingSlew()", 70, z.pendingSlew());
    }

    private static void samples() {
        checks.promise("promise 16");
        Clockhouse x = new Clockhouse();
        x.addServer(1, 0, 0, 0);
        for (int n = 0; n < 12; n++) {
            checks.due("samples(0)", Math.min(n, 8), x.samples(0));
            x.exchange(0, 5, 5, 5);
        }
        for (int server : NO_SERVERS) {
            checks.dueThrow("samples(" + server + ")", INDEX, () -> x.samples(server));
            checks.promise("promise 17");
            checks.dueThrow("offset(" + server + ")", INDEX, () -> x.offset(server));
            checks.promise("promise 18");
            checks.dueThrow("delay(" + server + ")", INDEX, () -> x.delay(server));
            checks.promise("promise 19");
            checks.dueThrow("jitter(" + server + ")", INDEX, () -> x.jitter(server));
            checks.promise("promise 20");
            checks.dueThrow("distance(" + server + ")", INDEX, () -> x.distance(server));
            checks.promise("promise 16");
        }
        x.addServer(1, 0, 0, 0);
        checks.due("samples(1)", 0, x.samples(1));
        checks.promise("promise 17");
        checks.dueThrow("offset(1) without a sample", STATE, () -> x.offset(1));
        checks.promise("promise 18");
        checks.dueThrow("delay(1) without a sample", STATE, () -> x.delay(1));
        checks.promise("promise 19");
        checks.dueThrow("jitter(1) without a sample", STATE, () -> x.jitter(1));
        checks.promise("promise 20");
        checks.dueThrow("distance(1) without a sample", STATE, () -> x.distance(1));
    }

    private static void bestSample() {
        checks.promise("promise 17");
        Clockhouse x = new Clockhouse();
        x.addServer(1, 1, 0, 0);
        x.exchange(0, 2, 0, 2);
        x.setError(0, 2);
        x.exchange(0, 1, 0, 1);
        x.setError(0, 3);
        x.exchange(0, 3, 0, 3);
        checks.due("offset(0) of the least delay", 2, x.offset(0));
        checks.promise("promise 18");
        checks.due("delay(0)", 2, x.delay(0));
        checks.promise("promise 17");
        x.setError(0, 4);
        x.exchange(0, 1, 0, 1);
        checks.due("offset(0) of the last taken of two", 4, x.offset(0));
        for (int n = 0; n < 7; n++) {
            x.setError(0, 10 + n);
            x.exchange(0, 4, 0, 4);
        }
        checks.due("offset(0) of the eldest kept", 4, x.offset(0));
        x.setError(0, 17);
        x.exchange(0, 5, 0, 5);
        checks.due("offset(0) when it has gone", 16, x.offset(0));
        checks.promise("promise 18");
        checks.due("delay(0)", 8, x.delay(0));
    }

    private static void jitter() {
        checks.promise("promise 19");
        Clockhouse x = new Clockhouse();
        x.addServer(1, 100, 0, 0);
        x.exchange(0, 0, 0, 0);
        checks.due("jitter(0) of one sample", 0, x.jitter(0));
        x.setError(0, 90);
        x.exchange(0, 1, 0, 1);
        checks.due("jitter(0) of two", 10, x.jitter(0));
        x.setError(0, 115);
        x.exchange(0, 1, 0, 1);
        checks.due("jitter(0) of 25 / 2", 12, x.jitter(0));
        x.setError(0, 100);
        for (int n = 0; n < 5; n++) {
            x.exchange(0, 2, 0, 2);
        }
        checks.due("jitter(0) of 25 / 7", 3, x.jitter(0));
        x.exchange(0, 2, 0, 2);
        checks.due("jitter(0) without the first, best 90 or 115: the last taken", (25 + 15 * 6) / 7, x.jitter(0));
        x.exchange(0, 2, 0, 2);
        checks.due("jitter(0) of 15 * 7 / 7", 15, x.jitter(0));
        x.exchange(0, 2, 0, 2);
        checks.due("jitter(0) of equal ones", 0, x.jitter(0));
    }

    private static void distance() {
        checks.promise("promise 20");
        Clockhouse x = new Clockhouse();
        x.addServer(1, 0, 1001, 7);
        x.exchange(0, 3, 0, 0);
        checks.due("distance(0) of 500 + 1 + 7", 508, x.distance(0));
        x.pass(66666);
        checks.due("distance(0) before 66667", 508, x.distance(0));
        x.pass(1);
        checks.due("distance(0) at 66667", 509, x.distance(0));
        x.pass(1000000000);
        checks.due("distance(0)", 15509, x.distance(0));
        x.setError(0, 40);
        x.exchange(0, 10, 0, 10);
        checks.due("distance(0) with a jitter", 508 + 15001 + 39, x.distance(0));
        Clockhouse y = new Clockhouse();
        y.addServer(1, 0, 0, 0);
        y.exchange(0, 5, 0, 5);
        y.pass(100000);
        y.exchange(0, 4, 0, 4);
        checks.due("distance(0) by the age of the best sample", 4, y.distance(0));
        y.exchange(0, 50000, 50000, 50000);
        checks.due("distance(0) by the age of the best sample", 4 + 2, y.distance(0));
        Clockhouse z = new Clockhouse();
        z.restart(-1000000000);
        z.addServer(1, 0, 1000000, 1000000);
        z.exchange(0, 0, 0, 0);
        checks.due("distance(0)", 1500000, z.distance(0));
        z.setDrift(300);
        z.pass(1000000000);
        checks.due("distance(0) by the clock's own time", 1500000 + 15004, z.distance(0));
    }

    // ---- selection

    private static void agreement() {
        Clockhouse x = new Clockhouse();
        x.addServer(1, 0, 0, 0);
        heard(x, 1, 0, 10);
        checks.promise("promise 21");
        checks.due("agreement()", 1, x.agreement());
        checks.promise("promise 22");
        checks.due("hasMajority() of one", true, x.hasMajority());
        checks.promise("promise 23");
        checks.due("agreeing(), the server 0 has no sample", 2, x.agreeing());
        heard(x, 1, 21, 10);
        checks.promise("promise 21");
        checks.due("agreement() of two apart", 1, x.agreement());
        checks.promise("promise 22");
        checks.due("hasMajority() of one in two", false, x.hasMajority());
        checks.promise("promise 23");
        checks.due("agreeing() by the lower one", 2, x.agreeing());
        heard(x, 1, -20, 10);
        checks.promise("promise 21");
        checks.due("agreement() of two that touch", 2, x.agreement());
        checks.promise("promise 22");
        checks.due("hasMajority() of two in three", true, x.hasMajority());
        checks.promise("promise 23");
        checks.due("agreeing()", 2 + 8, x.agreeing());
        heard(x, 1, 1000, 10);
        checks.promise("promise 22");
        checks.due("hasMajority() of two in four", false, x.hasMajority());
        heard(x, 1, 1000, 500);
        heard(x, 1, 1500, 0);
        checks.promise("promise 21");
        checks.due("agreement() of the first two", 2, x.agreement());
        checks.promise("promise 23");
        checks.due("agreeing() of the first two", 2 + 8, x.agreeing());
        heard(x, 1, 1000, 400);
        checks.promise("promise 21");
        checks.due("agreement() of three", 3, x.agreement());
        checks.promise("promise 23");
        checks.due("agreeing() of three", 16 + 32 + 128, x.agreeing());
        checks.promise("promise 22");
        checks.due("hasMajority() of three in seven", false, x.hasMajority());
    }

    private static void lowAndHigh() {
        Clockhouse x = new Clockhouse();
        heard(x, 1, 5, 5);
        heard(x, 1, 10, 5);
        heard(x, 1, 16, 4);
        checks.promise("promise 24");
        checks.due("low() of a chain", 5, x.low());
        checks.promise("promise 25");
        checks.due("high() of a chain", 10, x.high());
        checks.promise("promise 23");
        checks.due("agreeing() of a chain", 3, x.agreeing());
        heard(x, 1, -100, 30);
        heard(x, 1, -120, 30);
        checks.promise("promise 24");
        checks.due("low(), the least of several", -130, x.low());
        checks.promise("promise 25");
        checks.due("high() at it", -90, x.high());
        checks.promise("promise 23");
        checks.due("agreeing() at it", 8 + 16, x.agreeing());
        Clockhouse y = new Clockhouse();
        heard(y, 1, 0, 10);
        heard(y, 1, 20, 10);
        heard(y, 1, 10, 0);
        checks.promise("promise 24");
        checks.due("low() of a point", 10, y.low());
        checks.promise("promise 25");
        checks.due("high() of a point", 10, y.high());
        checks.promise("promise 21");
        checks.due("agreement() of a point", 3, y.agreement());
        Clockhouse z = new Clockhouse();
        heard(z, 1, -7, 100);
        checks.promise("promise 24");
        checks.due("low()", -107, z.low());
        checks.promise("promise 25");
        checks.due("high()", 93, z.high());
        z.pass(1000000);
        checks.promise("promise 24");
        checks.due("low() as the sample ages", -122, z.low());
        checks.promise("promise 25");
        checks.due("high() as the sample ages", 108, z.high());
    }

    private static void survivors() {
        checks.promise("promise 26");
        Clockhouse x = new Clockhouse();
        heard(x, 1, 0, 1000);
        heard(x, 1, 100, 1000);
        heard(x, 1, 900, 1000);
        checks.due("survivors() of three", 7, x.survivors());
        heard(x, 1, 100, 1000);
        checks.due("survivors() without the widest", 8 + 2 + 1, x.survivors());
        heard(x, 1, 5000, 10);
        checks.due("survivors() without one that does not agree", 8 + 2 + 1, x.survivors());
        Clockhouse y = new Clockhouse();
        for (int s = 0; s < 5; s++) {
            heard(y, 1, 77, 1000);
        }
        checks.due("survivors() of spread 0", 31, y.survivors());
        heard(y, 1, 78, 1000);
        checks.due("survivors(), a spread of 1, the others 1 / 5", 31, y.survivors());
        Clockhouse z = new Clockhouse();
        heard(z, 1, 100, 1000);
        heard(z, 1, 0, 1000);
        heard(z, 1, 100, 1000);
        heard(z, 1, 0, 1000);
        checks.due("survivors(), of equal spreads the greatest number goes", 7, z.survivors());
        heard(z, 1, 300, 1000);
        heard(z, 1, 400, 1000);
        checks.due("survivors(), one after the other", 7, z.survivors());
    }

    /** Of four servers the last is off by 30; the least jitter of all is the one told. */
    private static Clockhouse fourWithJitter(int least) {
        Clockhouse x = new Clockhouse();
        int[] offsets = {0, 0, 0, 30};
        for (int s = 0; s < 4; s++) {
            heard(x, 1, offsets[s], 5000);
        }
        for (int s = 0; s < 4; s++) {
            x.setError(s, offsets[s] + (s == 1 ? least : 500));
            x.exchange(s, 1, 0, 1);
        }
        return x;
    }

    private static void survivorsWithJitter() {
        checks.promise("promise 26");
        checks.due("survivors() of spread 30, jitter 29", 7, fourWithJitter(29).survivors());
        checks.due("survivors() of spread 30, jitter 30", 15, fourWithJitter(30).survivors());
        checks.due("survivors() of spread 30, jitter 31", 15, fourWithJitter(31).survivors());
        Clockhouse x = fourWithJitter(29);
        heard(x, 1, 900000, 10);
        checks.due("survivors(), the jitter 0 is of no survivor", 7, x.survivors());
        Clockhouse y = fourWithJitter(31);
        heard(y, 1, 900000, 10);
        checks.due("survivors(), the jitter 0 is of no survivor", 15, y.survivors());
    }

    private static void survivorsWithJitterOfTheFirst() {
        checks.promise("promise 26");
        int[] jitters = {28, 29, 30};
        int[] due = {7, 15, 15};
        for (int n = 0; n < jitters.length; n++) {
            Clockhouse x = new Clockhouse();
            int[] offsets = {0, 0, 1, 30};
            for (int s = 0; s < 4; s++) {
                heard(x, 1, offsets[s], 5000);
            }
            for (int s = 0; s < 4; s++) {
                x.setError(s, offsets[s] + (s == 0 ? jitters[n] : 700));
                x.exchange(s, 1, 0, 1);
            }
            checks.due("survivors() of spread 89 / 3, jitter " + jitters[n], due[n], x.survivors());
        }
    }

    private static void combinedOffset() {
        checks.promise("promise 27");
        Clockhouse x = new Clockhouse();
        heard(x, 1, 0, 1);
        heard(x, 1, 1, 0);
        checks.due("combinedOffset() of 1000000 / 1500000", 0, x.combinedOffset());
        heard(x, 1, 2, 1);
        checks.due("combinedOffset() of 2000000 / 2000000", 1, x.combinedOffset());
        Clockhouse y = new Clockhouse();
        heard(y, 1, -1, 5);
        heard(y, 1, 0, 5);
        checks.due("combinedOffset() of -1 / 2", -1, y.combinedOffset());
        Clockhouse z = new Clockhouse();
        heard(z, 1, 0, 499999);
        heard(z, 1, 300000, 1000000);
        checks.due("combinedOffset() of weights 2 and 1", 100000, z.combinedOffset());
        heard(z, 1, 300000, 999998);
        checks.due("combinedOffset() of weights 2, 1 and 1", 150000, z.combinedOffset());
        Clockhouse v = new Clockhouse();
        heard(v, 1, -77, 1000000);
        checks.due("combinedOffset() of weight 1", -77, v.combinedOffset());
        Clockhouse w = new Clockhouse();
        heard(w, 1, -600, 333332);
        heard(w, 1, 0, 333333);
        checks.due("combinedOffset() of weights 3 and 2", -360, w.combinedOffset());
        heard(w, 1, 900000, 10);
        checks.due("combinedOffset() of the survivors alone", -360, w.combinedOffset());
    }

    private static void peer() {
        checks.promise("promise 28");
        Clockhouse x = new Clockhouse();
        heard(x, 4, 0, 100);
        checks.due("peer()", 0, x.peer());
        heard(x, 3, 0, 900);
        checks.due("peer() of the least stratum", 1, x.peer());
        heard(x, 3, 0, 800);
        checks.due("peer() of the least distance", 2, x.peer());
        heard(x, 3, 0, 800);
        checks.due("peer() of the least number", 2, x.peer());
        heard(x, 1, 500000, 10);
        checks.due("peer() of the survivors", 2, x.peer());
        x.addServer(1, 0, 0, 0);
        checks.due("peer() of the candidates", 2, x.peer());
        Clockhouse y = new Clockhouse();
        heard(y, 1, 300, 1000);
        heard(y, 2, 0, 1000);
        heard(y, 2, 0, 1000);
        heard(y, 2, 0, 999);
        checks.due("peer(), the clustering took the first", 3, y.peer());
    }

    private static Clockhouse twoThatAgree() {
        Clockhouse x = new Clockhouse();
        heard(x, 2, -10, 100);
        heard(x, 3, 900, 100);
        heard(x, 1, 30, 100);
        return x;
    }

    /** Each asked on an object that was asked nothing before. */
    private static void askedAlone() {
        checks.promise("promise 21");
        checks.due("agreement()", 2, twoThatAgree().agreement());
        checks.promise("promise 22");
        checks.due("hasMajority()", true, twoThatAgree().hasMajority());
        checks.promise("promise 23");
        checks.due("agreeing()", 5, twoThatAgree().agreeing());
        checks.promise("promise 24");
        checks.due("low()", -70, twoThatAgree().low());
        checks.promise("promise 25");
        checks.due("high()", 90, twoThatAgree().high());
        checks.promise("promise 26");
        checks.due("survivors()", 5, twoThatAgree().survivors());
        checks.promise("promise 27");
        checks.due("combinedOffset()", 10, twoThatAgree().combinedOffset());
        checks.promise("promise 28");
        checks.due("peer()", 2, twoThatAgree().peer());
        checks.promise("promise 29");
        checks.due("synchronize()", Clockhouse.SLEWED, twoThatAgree().synchronize());
    }

    private static void nothingSelected() {
        Clockhouse x = new Clockhouse();
        for (int n = 0; n < 2; n++) {
            checks.promise("promise 21");
            checks.due("agreement()", 0, x.agreement());
            checks.promise("promise 22");
            checks.due("hasMajority()", false, x.hasMajority());
            checks.promise("promise 23");
            checks.due("agreeing()", 0, x.agreeing());
            checks.promise("promise 24");
            checks.dueThrow("low()", STATE, x::low);
            checks.promise("promise 25");
            checks.dueThrow("high()", STATE, x::high);
            checks.promise("promise 26");
            checks.due("survivors()", 0, x.survivors());
            checks.promise("promise 27");
            checks.dueThrow("combinedOffset()", STATE, x::combinedOffset);
            checks.promise("promise 28");
            checks.due("peer()", Clockhouse.NONE, x.peer());
            checks.promise("promise 29");
            checks.dueThrow("synchronize()", STATE, x::synchronize);
            x.addServer(1, 0, 0, 0);
        }
    }

    // ---- discipline

    private static void synchronizeBySlewing() {
        Clockhouse x = new Clockhouse();
        heard(x, 3, 128000, 10);
        x.addServer(2, 0, 0, 0);
        heard(x, 4, 128000, 10);
        checks.promise("promise 30");
        checks.due("stratum()", 16, x.stratum());
        checks.promise("promise 29");
        checks.due("synchronize() by 128000", Clockhouse.SLEWED, x.synchronize());
        checks.due("clock()", 0, x.clock());
        checks.due("pendingSlew()", 128000, x.pendingSlew());
        checks.due("correction()", 0, x.correction());
        checks.due("samples(0)", 0, x.samples(0));
        checks.due("samples(2)", 0, x.samples(2));
        checks.due("servers()", 3, x.servers());
        checks.dueThrow("synchronize() without samples", STATE, x::synchronize);
        checks.promise("promise 30");
        checks.due("stratum()", 4, x.stratum());
        checks.promise("promise 31");
        checks.due("steps()", 0, x.steps());
        checks.promise("promise 32");
        checks.due("synchronizations()", 1, x.synchronizations());
        checks.promise("promise 29");
        x.setError(0, -1000000);
        x.exchange(0, 0, 0, 0);
        checks.due("synchronize() by -1000000", Clockhouse.SLEWED, x.synchronize());
        checks.due("pendingSlew() in place of the other", -1000000, x.pendingSlew());
        checks.due("correction(), no time has gone by", 0, x.correction());
        x.exchange(2, 0, 0, 0);
        x.exchange(0, 0, 0, 0);
        checks.dueThrow("synchronize() without a majority", STATE, x::synchronize);
        checks.due("samples(0)", 1, x.samples(0));
        checks.promise("promise 32");
        checks.due("synchronizations()", 2, x.synchronizations());
        checks.promise("promise 30");
        checks.due("stratum()", 4, x.stratum());
    }

    private static void synchronizeByStepping() {
        checks.promise("promise 29");
        Clockhouse x = new Clockhouse();
        heard(x, 14, -5, 10);
        x.synchronize();
        checks.promise("promise 30");
        checks.due("stratum()", 15, x.stratum());
        checks.promise("promise 29");
        x.setError(0, 128001);
        x.exchange(0, 0, 0, 0);
        checks.due("synchronize() by 128001", Clockhouse.STEPPED, x.synchronize());
        checks.due("clock()", 128001, x.clock());
        checks.due("error()", 128001, x.error());
        checks.due("trueTime()", 0, x.trueTime());
        checks.due("pendingSlew(), nothing is pending", 0, x.pendingSlew());
        checks.due("pass(1000000)", 1128001, x.pass(1000000));
        checks.promise("promise 31");
        checks.due("steps()", 1, x.steps());
        checks.promise("promise 32");
        checks.due("synchronizations()", 2, x.synchronizations());
        Clockhouse y = new Clockhouse();
        y.restart(1000000000);
        heard(y, 1, 0, 0);
        checks.promise("promise 29");
        checks.due("synchronize() never steps back", Clockhouse.SLEWED, y.synchronize());
        checks.due("pendingSlew()", -1000000000, y.pendingSlew());
        y.restart(-1000000000);
        heard(y, 1, 0, 0);
        checks.due("synchronize() forward", Clockhouse.STEPPED, y.synchronize());
        checks.due("clock()", 0, y.clock());
        Clockhouse z = new Clockhouse();
        z.setDrift(1);
        z.pass(1000);
        heard(z, 1, 500000, 0);
        z.synchronize();
        z.pass(999000);
        checks.due("clock(), a step keeps the picoseconds", 1500001, z.clock());
        Clockhouse w = new Clockhouse();
        w.setDrift(-1);
        heard(w, 1, 7, 0);
        w.synchronize();
        w.setError(0, 200000);
        w.exchange(0, 0, 0, 0);
        w.synchronize();
        checks.due("pass(1) of 999999 picoseconds, and not one more", 200000, w.pass(1));
    }

    private static int correctionBy(int offset, int interval) {
        return correctedBy(offset, interval).correction();
    }

    private static void correctionOfTheRate() {
        checks.promise("promise 9");
        checks.due("correction() by 3", 0, correctionBy(3, 1000000));
        checks.due("correction() by 4", 1, correctionBy(4, 1000000));
        checks.due("correction() by 7", 1, correctionBy(7, 1000000));
        checks.due("correction() by -3", 0, correctionBy(-3, 1000000));
        checks.due("correction() by -7", -1, correctionBy(-7, 1000000));
        checks.due("correction() by -8", -2, correctionBy(-8, 1000000));
        checks.due("correction() by -10 of 3 seconds", 0, correctionBy(-10, 3000000));
        checks.due("correction() by 11 of 3 seconds", 0, correctionBy(11, 3000000));
        checks.due("correction() by 12 of 3 seconds", 1, correctionBy(12, 3000000));
        checks.due("correction() of 1000 seconds", 250, correctionBy(1000000, 1000000000));
        checks.promise("promise 29");
        Clockhouse x = new Clockhouse();
        x.restart(-1000000);
        heard(x, 1, 0, 0);
        x.synchronize();
        checks.due("clock()", 0, x.clock());
        x.pass(1000000);
        x.setError(0, 40);
        x.exchange(0, 0, 0, 0);
        x.synchronize();
        checks.due("correction() since the reading behind the step", 10, x.correction());
        x.pass(1000000);
        checks.due("clock() goes on with the correction and the slew", 2000050, x.clock());
        x.setError(0, 0);
        x.exchange(0, 0, 0, 0);
        x.synchronize();
        checks.due("correction() by -50 less", -2, x.correction());
        Clockhouse y = synchronizedBy(0);
        y.pass(100000000);
        y.setError(0, 130000);
        y.exchange(0, 0, 0, 0);
        y.synchronize();
        checks.due("correction() by the reading before the step", 325, y.correction());
    }

    private static void correctionIsHeld() {
        checks.promise("promise 9");
        checks.due("correction() up to 499", 499, correctionBy(1999, 1000000));
        checks.due("correction() up to 500", 500, correctionBy(2000, 1000000));
        checks.due("correction() of 501", 500, correctionBy(2004, 1000000));
        checks.due("correction() far above", 500, correctionBy(1000000, 1));
        checks.due("correction() down to -500", -500, correctionBy(-2000, 1000000));
        checks.due("correction() of -501", -500, correctionBy(-2004, 1000000));
        checks.due("correction() far below", -500, correctionBy(-1000000, 1));
        Clockhouse x = synchronizedBy(0);
        x.pass(1000000);
        x.setError(0, 2000);
        x.exchange(0, 0, 0, 0);
        x.synchronize();
        x.pass(1000000);
        checks.due("clock() at 1000 millionths more", 2001000, x.clock());
        x.setDrift(300);
        x.pass(1000000);
        checks.due("clock() at 1300 millionths more", 3002300, x.clock());
    }

    /** A step makes the samples older, and the peer of the third part is the one that stands then. */
    private static void peerOfASynchronization() {
        checks.promise("promise 29");
        Clockhouse x = new Clockhouse();
        heard(x, 6, 0, 900);
        heard(x, 5, 0, 1000);
        heard(x, 5, 0, 1000);
        heard(x, 1, 3000, 1000);
        x.synchronize();
        checks.due("stratum() by the peer, not by others", 6, x.stratum());
        Clockhouse y = new Clockhouse();
        y.restart(-1000000000);
        heard(y, 5, 0, 5000);
        heard(y, 5, 0, 5000);
        heard(y, 1, 20000, 5000);
        checks.due("peer() before", 0, y.peer());
        checks.due("synchronize()", Clockhouse.STEPPED, y.synchronize());
        checks.due("stratum() by the peer when the clock was stepped", 2, y.stratum());
    }

    private static void failedCallsChangeNothing() {
        checks.promise("a call that throws changes nothing");
        Clockhouse x = new Clockhouse();
        x.setDrift(20);
        for (int s = 0; s < 8; s++) {
            x.addServer(1 + s, s * 200000 - 700000, 10, 10);
        }
        x.exchange(0, 5, 0, 0);
        x.synchronize();
        x.pass(1000);
        x.announceLeap(3, true);
        x.exchange(0, 100, 100, 100);
        x.exchange(1, 100, 100, 100);
        x.exchange(2, 100, 100, 100);
        String before = stateOf(x);
        Checks.outcome(() -> x.pass(0));
        Checks.outcome(() -> x.setDrift(400));
        Checks.outcome(() -> x.announceLeap(3, false));
        Checks.outcome(() -> x.announceLeap(22, false));
        Checks.outcome(() -> x.addServer(1, 0, 0, 0));
        Checks.outcome(() -> x.setError(0, 1000001));
        Checks.outcome(() -> x.setError(8, 0));
        Checks.outcome(() -> x.exchange(0, 500000, 100000, 500001));
        Checks.outcome(() -> x.exchange(8, 5, 5, 5));
        Checks.outcome(x::synchronize);
        checks.due("the state", before, stateOf(x));
        checks.due("setError(0, 1)", -700000, x.setError(0, 1));
        checks.due("setDrift(1)", 20, x.setDrift(1));
    }
}
