/** "Clock", and the promises 1 to 9. */
final class ClockSentences extends Sentences {
    private static final int[] READINGS = {-LONGEST, -LONGEST + 1, -1, 0, 1, LONGEST - 1, LONGEST};
    private static final int[] NOT_READINGS = outside(-LONGEST, LONGEST);
    private static final int[] NOT_MICROS = outside(1, LONGEST);
    private static final int[] NOT_DRIFTS = outside(-300, 300);

    ClockSentences(Document document, Checks checks) {
        super(document, checks);
    }

    @Override
    void testAll() {
        test("Clock", "True time is 0 at first", this::upToTheEnd);
        test("Clock", "The clock counts picoseconds", this::picoseconds);
        test("Clock", "It has a drift (-300 to 300, 0 at first)", this::driftCorrectionAndSlew);
        test("Clock", "When t microseconds of true time pass", this::slewedPart);
        test("Promise 1", "`Clockhouse()`", this::newObject);
        test("Promise 2", "`void restart", this::restart);
        test("Promise 2", "- `reading`", this::readings);
        test("Promise 2", "Throws `IllegalArgumentException`", this::wrongReadings);
        test("Promise 3", "`long pass", this::pass);
        test("Promise 3", "- `micros`", this::micros);
        test("Promise 3", "Returns", this::readingThen);
        test("Promise 3", "Throws `IllegalArgumentException`", this::wrongMicros);
        test("Promise 3", "Throws `IllegalStateException`", this::passBeyondTheEnd);
        test("Promise 4", "`int setDrift", this::setDrift);
        test("Promise 4", "- `drift`", this::drifts);
        test("Promise 4", "Returns", this::previousDrift);
        test("Promise 4", "Throws", this::wrongDrifts);
        test("Promise 5", "`long trueTime()`", this::trueTime);
        test("Promise 6", "`long clock()`", this::clock);
        test("Promise 7", "`long error()`", this::error);
        test("Promise 8", "`long pendingSlew()`", this::pendingSlew);
        test("Promise 9", "`int correction()`", this::correction);
    }

    // ---- "Clock"

    private void upToTheEnd() {
        Clockhouse x = new Clockhouse();
        checks.due("trueTime() at first", 0, x.trueTime());
        passMany(x, 3, LONGEST);
        checks.due("trueTime() above the greatest int", 3000000000L, x.trueTime());
        passMany(x, 997, LONGEST);
        checks.due("trueTime() at the end", END_OF_TIME, x.trueTime());
        checks.due("clock() at the end", END_OF_TIME, x.clock());
        checks.dueThrow("pass(1) behind it", STATE, () -> x.pass(1));
        x.addServer(1, 0, 0, 0);
        checks.due("exchange in no time", 0, x.exchange(0, 0, 0, 0));
        checks.dueThrow("exchange(0, 1, 0, 0)", STATE, () -> x.exchange(0, 1, 0, 0));
        checks.dueThrow("exchange(0, 0, 1, 0)", STATE, () -> x.exchange(0, 0, 1, 0));
        checks.dueThrow("exchange(0, 0, 0, 1)", STATE, () -> x.exchange(0, 0, 0, 1));
        checks.due("trueTime()", END_OF_TIME, x.trueTime());
    }

    private static Clockhouse drifting(int reading, int drift) {
        Clockhouse x = new Clockhouse();
        x.restart(reading);
        x.setDrift(drift);
        return x;
    }

    private void picoseconds() {
        checks.due("0.9997", 0, drifting(0, -300).pass(1));
        checks.due("1.0003", 1, drifting(0, 300).pass(1));
        checks.due("-0.0003", -1, drifting(-1, -300).pass(1));
        checks.due("0.0003", 0, drifting(-1, 300).pass(1));
        checks.due("-1 + 1", 0, drifting(-1, 0).pass(1));
        checks.due("-2 + 1", -1, drifting(-2, 0).pass(1));
        checks.due("-1.0003", -2, drifting(-2, -300).pass(1));
        checks.due("999999.999999", 999999, drifting(0, 1).pass(999999));
        checks.due("1000001", 1000001, drifting(0, 1).pass(1000000));
        Clockhouse kept = drifting(0, 1);
        kept.pass(999999);
        checks.due("999999.999999 + 1.000001", 1000001, kept.pass(1));
        checks.due("999998.000001", 999998, drifting(0, -1).pass(999999));
        checks.due("999999", 999999, drifting(0, -1).pass(1000000));
        checks.due("-0.000001", -1, drifting(-1000000, 1).pass(999999));
    }

    private void driftCorrectionAndSlew() {
        Clockhouse x = new Clockhouse();
        checks.due("correction() at first", 0, x.correction());
        checks.due("pendingSlew() at first", 0, x.pendingSlew());
        checks.due("pass(1000000) at first", 1000000, x.pass(1000000));
        checks.due("the drift at first", 0, x.setDrift(300));
        checks.due("pass(1000000), drift 300", 2000300, x.pass(1000000));
        x.setDrift(-300);
        checks.due("pass(1000000), drift -300", 3000000, x.pass(1000000));
        Clockhouse fast = correctedBy(3000, 1000000);
        checks.due("correction(), held", 500, fast.correction());
        fast.pass(6000000);
        checks.due("pass(1000000), correction 500", 8006000 + 500, fast.pass(1000000));
        fast.setDrift(300);
        checks.due("pass(1000000), both", 9006500 + 800, fast.pass(1000000));
        Clockhouse slow = correctedBy(-3000, 1000000);
        checks.due("correction(), held", -500, slow.correction());
        checks.due("pendingSlew() below 0", -3000, slow.pendingSlew());
        slow.pass(6000000);
        checks.due("pass(1000000), correction -500", 7994000 - 500, slow.pass(1000000));
        slow.setDrift(-300);
        checks.due("pass(1000000), both", 8993500 - 800, slow.pass(1000000));
    }

    /** With the slew of 3 microseconds, which takes 6000 of true time, or of as many below 0. */
    private void slewedPart() {
        checks.due("pass(5999), up", 6001, synchronizedBy(3).pass(5999));
        checks.due("pass(6000), up", 6003, synchronizedBy(3).pass(6000));
        checks.due("pass(6001), up", 6004, synchronizedBy(3).pass(6001));
        checks.due("pass(5999), down", 5996, synchronizedBy(-3).pass(5999));
        checks.due("pass(6000), down", 5997, synchronizedBy(-3).pass(6000));
        checks.due("pass(6001), down", 5998, synchronizedBy(-3).pass(6001));
        for (int sign = -1; sign <= 1; sign += 2) {
            Clockhouse x = synchronizedBy(3 * sign);
            x.pass(5999);
            checks.due("pendingSlew() of 0.0005", 0, x.pendingSlew());
            checks.due("pass(1) takes the rest", 6000 + 3 * sign, x.pass(1));
            checks.due("pass(10000), nothing is left", 16000 + 3 * sign, x.pass(10000));
            Clockhouse y = synchronizedBy(3 * sign);
            y.pass(2000);
            checks.due("pendingSlew() less a third", 2 * sign, y.pendingSlew());
            checks.due("clock() after a third", 2000 + sign, y.clock());
            Clockhouse z = synchronizedBy(3 * sign);
            z.pass(2000000);
            checks.due("pendingSlew(), far beyond", 0, z.pendingSlew());
            checks.due("clock(), far beyond", 2000000 + 3 * sign, z.clock());
        }
        Clockhouse far = synchronizedBy(-500000);
        checks.due("pass(1000000000) of -500000", 999500000, far.pass(LONGEST));
        checks.due("pendingSlew()", 0, far.pendingSlew());
        Clockhouse farther = synchronizedBy(-500001);
        checks.due("pass(1000000000) of -500001", 999500000, farther.pass(LONGEST));
        checks.due("pendingSlew()", -1, farther.pendingSlew());
        checks.due("pass(2000) of -1", 999501999, farther.pass(2000));
        Clockhouse both = synchronizedBy(3);
        both.setDrift(-300);
        checks.due("pass(5000): 5000 * (1 - 0.0003 + 0.0005)", 5001, both.pass(5000));
        checks.due("pass(10000): 15000 * (1 - 0.0003) + 3", 14998, both.pass(10000));
    }

    // ---- promises

    private void newObject() {
        Clockhouse x = new Clockhouse();
        checks.due("trueTime()", 0, x.trueTime());
        checks.due("clock()", 0, x.clock());
        checks.due("servers()", 0, x.servers());
        checks.dueThrow("samples(0)", INDEX, () -> x.samples(0));
        checks.due("addServer", 0, x.addServer(1, 0, 0, 0));
        checks.due("another new object", futureOf(new Clockhouse()), futureOf(new Clockhouse()));
    }

    private void restart() {
        Clockhouse x = full();
        x.restart(0);
        checks.due("all that follows", futureOf(new Clockhouse()), futureOf(x));
        Clockhouse y = full();
        y.restart(-5);
        checks.due("trueTime()", 0, y.trueTime());
        checks.due("clock()", -5, y.clock());
        checks.due("stratum()", 16, y.stratum());
        checks.due("servers()", 0, y.servers());
        checks.dueThrow("samples(0)", INDEX, () -> y.samples(0));
        checks.dueThrow("samples(7)", INDEX, () -> y.samples(7));
        y.addServer(4, 1000, 0, 0);
        checks.due("samples(0) of the new server", 0, y.samples(0));
        y.pass(1000000);
        y.exchange(0, 0, 0, 0);
        y.synchronize();
        checks.due("correction(), not synchronized before", 0, y.correction());
        checks.due("stratum()", 5, y.stratum());
        checks.due("synchronizations()", 1, y.synchronizations());
        Clockhouse z = beforeTheEndOfTime(0);
        z.restart(3);
        checks.due("pass(1000000000) after the end of time", LONGEST + 3, z.pass(LONGEST));
    }

    private void readings() {
        for (int reading : READINGS) {
            Clockhouse x = new Clockhouse();
            x.restart(reading);
            checks.due("clock() of restart(" + reading + ")", reading, x.clock());
            checks.due("trueTime() of restart(" + reading + ")", 0, x.trueTime());
            checks.due("pass(1) of restart(" + reading + ")", reading + 1, x.pass(1));
        }
    }

    private void wrongReadings() {
        for (int reading : NOT_READINGS) {
            dueRefused("restart(" + reading + ")", ARGUMENT, Scenes::busy, x -> x.restart(reading));
        }
    }

    private void pass() {
        Clockhouse x = new Clockhouse();
        x.pass(1);
        checks.due("trueTime() after 1", 1, x.trueTime());
        x.pass(LONGEST);
        checks.due("trueTime() after 1000000000 more", LONGEST + 1, x.trueTime());
        checks.due("clock()", LONGEST + 1, x.clock());
    }

    private void micros() {
        int[] taken = {1, 2, LONGEST - 1, LONGEST};
        for (int micros : taken) {
            checks.due("pass(" + micros + ")", micros, new Clockhouse().pass(micros));
        }
    }

    private void readingThen() {
        Clockhouse x = drifting(-LONGEST, 300);
        checks.due("pass(1000000000)", 300000, x.pass(LONGEST));
        checks.due("clock()", 300000, x.clock());
        checks.due("pass(1) with 0.0003 besides", 300001, x.pass(1));
    }

    private void wrongMicros() {
        for (int micros : NOT_MICROS) {
            dueRefused("pass(" + micros + ")", ARGUMENT, Scenes::busy, x -> x.pass(micros));
        }
    }

    private void passBeyondTheEnd() {
        int[] beyond = {11, 12, LONGEST};
        for (int micros : beyond) {
            dueRefused("pass(" + micros + "), 10 are left", STATE, () -> beforeTheEndOfTime(10), x -> x.pass(micros));
        }
        dueRefused("pass(1), nothing is left", STATE, () -> beforeTheEndOfTime(0), x -> x.pass(1));
        checks.due("pass(9), 10 are left", END_OF_TIME - 1, beforeTheEndOfTime(10).pass(9));
        checks.due("pass(10), 10 are left", END_OF_TIME, beforeTheEndOfTime(10).pass(10));
        Clockhouse behind = new Clockhouse();
        behind.restart(-LONGEST);
        passMany(behind, 1000, LONGEST);
        checks.due("clock(), not yet there", END_OF_TIME - LONGEST, behind.clock());
        checks.dueThrow("pass(1), by true time, not by the clock", STATE, () -> behind.pass(1));
        Clockhouse ahead = new Clockhouse();
        ahead.restart(LONGEST);
        passMany(ahead, 999, LONGEST);
        checks.due("pass, by true time, not by the clock", END_OF_TIME + LONGEST, ahead.pass(LONGEST));
    }

    private void setDrift() {
        Clockhouse x = drifting(0, 40);
        checks.due("clock(), no time has passed", 0, x.clock());
        checks.due("pass(1000000)", 1000040, x.pass(1000000));
        x.setDrift(-40);
        checks.due("clock(), what was passed stays", 1000040, x.clock());
        checks.due("pass(2000000), in place of the other drift", 2999960, x.pass(2000000));
        Clockhouse y = correctedBy(4 * 11, 1000000);
        y.setDrift(5);
        checks.due("correction() is left alone", 11, y.correction());
    }

    private void drifts() {
        int[] taken = {-300, -299, -1, 0, 1, 299, 300};
        for (int drift : taken) {
            checks.due("pass(1000000) of drift " + drift, 1000000 + drift, drifting(0, drift).pass(1000000));
        }
    }

    private void previousDrift() {
        Clockhouse x = new Clockhouse();
        checks.due("setDrift(-300), the first", 0, x.setDrift(-300));
        checks.due("setDrift(300)", -300, x.setDrift(300));
        checks.due("setDrift(300)", 300, x.setDrift(300));
        checks.due("setDrift(1)", 300, x.setDrift(1));
        checks.dueThrow("setDrift(301)", ARGUMENT, () -> x.setDrift(301));
        checks.due("setDrift(0), a refused one is none", 1, x.setDrift(0));
        x.setDrift(9);
        x.restart(0);
        checks.due("setDrift(0) after restart", 0, x.setDrift(0));
    }

    private void wrongDrifts() {
        for (int drift : NOT_DRIFTS) {
            dueRefused("setDrift(" + drift + ")", ARGUMENT, Scenes::busy, x -> x.setDrift(drift));
        }
    }

    private void trueTime() {
        Clockhouse x = drifting(800, 300);
        checks.due("trueTime() at first", 0, x.trueTime());
        x.pass(LONGEST);
        checks.due("trueTime(), not the clock's", LONGEST, x.trueTime());
        x.addServer(1, 0, 0, 0);
        x.exchange(0, 500000, 100000, 500000);
        checks.due("trueTime() of an exchange", LONGEST + 1100000L, x.trueTime());
        Clockhouse y = new Clockhouse();
        y.restart(-LONGEST);
        heard(y, 1, 0, 0);
        y.synchronize();
        checks.due("trueTime() of a step", 0, y.trueTime());
    }

    private void clock() {
        Clockhouse x = new Clockhouse();
        checks.due("clock() at first", 0, x.clock());
        passMany(x, 5, LONGEST);
        checks.due("clock() above the greatest int", 5000000000L, x.clock());
        Clockhouse y = drifting(-LONGEST, -300);
        checks.due("clock() below 0", -LONGEST, y.clock());
        y.pass(1);
        checks.due("clock(), rounded down", -LONGEST, y.clock());
        y.pass(LONGEST);
        checks.due("clock(), -1 - 300000 + 0.9997", -300000, y.clock());
    }

    private void error() {
        Clockhouse x = drifting(LONGEST, 300);
        checks.due("error() at first", LONGEST, x.error());
        x.pass(LONGEST);
        checks.due("error()", LONGEST + 300000, x.error());
        Clockhouse y = drifting(-LONGEST, -300);
        checks.due("error() below 0", -LONGEST, y.error());
        y.pass(LONGEST);
        checks.due("error() below 0", -LONGEST - 300000, y.error());
        Clockhouse z = drifting(0, -1);
        z.pass(1);
        checks.due("error() of a reading rounded down", -1, z.error());
    }

    private long pendingAfter(int offset, int micros) {
        Clockhouse x = synchronizedBy(offset);
        x.pass(micros);
        return x.pendingSlew();
    }

    private void pendingSlew() {
        checks.due("pendingSlew() at first", 0, new Clockhouse().pendingSlew());
        checks.due("pendingSlew(), the greatest", 128000, synchronizedBy(128000).pendingSlew());
        checks.due("pendingSlew() below 0", -1000000, synchronizedBy(-1000000).pendingSlew());
        checks.due("pendingSlew() of 1.9995", 1, pendingAfter(2, 1));
        checks.due("pendingSlew() of -1.9995", -1, pendingAfter(-2, 1));
        checks.due("pendingSlew() of 1", 1, pendingAfter(2, 2000));
        checks.due("pendingSlew() of -1", -1, pendingAfter(-2, 2000));
        checks.due("pendingSlew() of 0.9995", 0, pendingAfter(1, 1));
        checks.due("pendingSlew() of -0.9995", 0, pendingAfter(-1, 1));
        checks.due("pendingSlew() of 0.0005", 0, pendingAfter(1, 1999));
        checks.due("pendingSlew() of -0.0005", 0, pendingAfter(-1, 1999));
        Clockhouse x = new Clockhouse();
        x.restart(LONGEST);
        heard(x, 1, -1000000, 0);
        x.synchronize();
        checks.due("pendingSlew(), the least", -LONGEST - 1000000, x.pendingSlew());
    }

    private void correction() {
        checks.due("correction() at first", 0, new Clockhouse().correction());
        checks.due("correction() of one synchronization", 0, synchronizedBy(5000).correction());
        checks.due("correction(), the greatest", 500, correctedBy(5000, 1000000).correction());
        checks.due("correction(), the least", -500, correctedBy(-5000, 1000000).correction());
        checks.due("correction() between", -3, correctedBy(-12, 1000000).correction());
        Clockhouse x = correctedBy(12, 1000000);
        x.setDrift(200);
        x.pass(5000000);
        checks.due("correction() after setDrift and pass", 3, x.correction());
    }
}
