/** The promises 29 to 32. */
final class DisciplineSentences extends Sentences {
    private static final int STEP_LIMIT = 128000;

    DisciplineSentences(Document document, Checks checks) {
        super(document, checks);
    }

    @Override
    void testAll() {
        test("Promise 29", "`int synchronize()", this::synchronize);
        test("Promise 29", "1. If the clock was synchronized before", this::rate);
        test("Promise 29", "2. If o is more than 128000", this::step);
        test("Promise 29", "Otherwise, the pending slew becomes", this::slew);
        test("Promise 29", "3. The stratum of the client becomes", this::stratumAndSamples);
        test("Promise 29", "Returns SLEWED or STEPPED.", this::results);
        test("Promise 29", "Throws", this::noMajority);
        test("Promise 30", "`int stratum()`", this::stratum);
        test("Promise 31", "`int steps()`", this::steps);
        test("Promise 32", "`int synchronizations()`", this::synchronizations);
    }

    // ---- what several sentences need

    private static int correctionBy(int offset, int interval) {
        return correctedBy(offset, interval).correction();
    }

    private static int synchronizeBy(Clockhouse x, int error) {
        hearAgain(x, 0, error);
        return x.synchronize();
    }

    /** One server of the stratum 1; the clock reads true time. */
    private static Clockhouse withServer() {
        Clockhouse x = new Clockhouse();
        x.addServer(1, 0, 0, 0);
        return x;
    }

    /** The clock is so far behind true time, and so the offset of the one server is so great. */
    private static Clockhouse behindBy(int micros) {
        Clockhouse x = new Clockhouse();
        x.restart(-micros);
        heard(x, 1, 0, 0);
        return x;
    }

    // ---- promises

    /** The rate is corrected by the clock that was read before the step, and the stratum by the samples behind it. */
    private void synchronize() {
        Clockhouse x = correctedBy(130000, 100000000);
        checks.due("correction(), ahead of the step", 325, x.correction());
        checks.due("clock(), behind it", 100130000, x.clock());
        checks.due("stratum()", 2, x.stratum());
        Clockhouse y = new Clockhouse();
        heard(y, 1, 10, 499999);
        heard(y, 1, 40, 999999);
        y.synchronize();
        checks.due("pendingSlew() by the combined offset", 20, y.pendingSlew());
    }

    private void rate() {
        checks.due("correction() of a first synchronization", 0, synchronizedBy(100000).correction());
        Clockhouse late = withServer();
        late.pass(1000000);
        synchronizeBy(late, 400);
        checks.due("correction() of a first one, when time has passed", 0, late.correction());
        Clockhouse atOnce = synchronizedBy(0);
        synchronizeBy(atOnce, 100000);
        checks.due("correction(), i is 0", 0, atOnce.correction());
        checks.due("correction(), i is 1, f is 1000000", 500, correctionBy(1, 1));
        checks.due("correction(), i is 1, f is -1000000", -500, correctionBy(-1, 1));
        checks.due("correction(), o is 0", 0, correctionBy(0, 1));
        roundedTowards0();
        held();
        added();
        interval();
    }

    private void roundedTowards0() {
        int[] offsets = {3, 4, 7, 8, -3, -4, -7, -8};
        int[] due = {0, 1, 1, 2, 0, -1, -1, -2};
        for (int n = 0; n < offsets.length; n++) {
            checks.due("correction(), f is " + offsets[n], due[n], correctionBy(offsets[n], 1000000));
        }
        checks.due("correction(), f is 3.67", 0, correctionBy(11, 3000000));
        checks.due("correction(), f is 4", 1, correctionBy(12, 3000000));
        checks.due("correction(), f is -3.67", 0, correctionBy(-11, 3000000));
        checks.due("correction(), f is -4", -1, correctionBy(-12, 3000000));
        checks.due("correction(), f is -7.67", -1, correctionBy(-23, 3000000));
        checks.due("correction(), i is 1000000000", 250, correctionBy(1000000, LONGEST));
        checks.due("correction(), i is 1000000000", -250, correctionBy(-1000000, LONGEST));
        checks.due("correction(), i is 1000000000, f is 3.999", 0, correctionBy(3999, LONGEST));
    }

    private void held() {
        checks.due("correction(), f / 4 is 499", 499, correctionBy(1999, 1000000));
        checks.due("correction(), f / 4 is 500", 500, correctionBy(2000, 1000000));
        checks.due("correction(), f / 4 is 501", 500, correctionBy(2004, 1000000));
        checks.due("correction(), f / 4 is -499", -499, correctionBy(-1999, 1000000));
        checks.due("correction(), f / 4 is -500", -500, correctionBy(-2000, 1000000));
        checks.due("correction(), f / 4 is -501", -500, correctionBy(-2004, 1000000));
        checks.due("correction(), f / 4 above the greatest int", 500, correctionBy(10000, 1));
        checks.due("correction(), f / 4 below the least int", -500, correctionBy(-10000, 1));
        checks.due("correction(), f is 1000000000000", 500, correctionBy(1000000, 1));
        checks.due("correction(), f is -1000000000000", -500, correctionBy(-1000000, 1));
        Clockhouse far = synchronizedBy(0);
        far.restart(-LONGEST);
        heard(far, 1, 1000000, 0);
        heard(far, 1, 1000000, 0);
        far.synchronize();
        far.pass(1);
        hearAgain(far, 1, -1000000);
        far.synchronize();
        checks.due("correction(), f is beyond", -500, far.correction());
    }

    /** Slewed out between the synchronizations, so that each offset is the one told. */
    private void added() {
        Clockhouse x = correctedBy(1200, 1000000);
        checks.due("correction(), 300 greater than 0", 300, x.correction());
        synchronizeBy(x, (int) x.error());
        checks.due("correction(), i is 0", 300, x.correction());
        x.pass(1000000);
        synchronizeBy(x, (int) x.error() + 600);
        checks.due("correction(), f is 600000000 / 1000300, 149 greater", 449, x.correction());
        synchronizeBy(x, (int) x.error());
        x.pass(1000000);
        synchronizeBy(x, (int) x.error() + 600);
        checks.due("correction(), 149 greater, but held", 500, x.correction());
        synchronizeBy(x, (int) x.error());
        x.pass(1000000);
        synchronizeBy(x, (int) x.error() - 600);
        checks.due("correction(), 149 less than what was held", 351, x.correction());
    }

    private void interval() {
        Clockhouse fast = synchronizedBy(0);
        fast.setDrift(300);
        fast.pass(1000000);
        synchronizeBy(fast, 1300);
        checks.due("correction(), i by the clock: 1000000000 / 1000300 / 4", 249, fast.correction());
        Clockhouse stepped = new Clockhouse();
        stepped.restart(-1000000);
        stepped.pass(500000);
        heard(stepped, 1, 0, 0);
        checks.due("synchronize(), from -500000 to 500000", Clockhouse.STEPPED, stepped.synchronize());
        stepped.pass(1000000);
        synchronizeBy(stepped, 40);
        checks.due("correction(), i since the reading behind the step", 10, stepped.correction());
        Clockhouse stepping = correctedBy(128004, 128004000);
        checks.due("correction(), i is read ahead of this step", 250, stepping.correction());
        Clockhouse last = correctedBy(0, 1000000);
        last.pass(1000000);
        synchronizeBy(last, 40);
        checks.due("correction(), i since the last, not since the first", 10, last.correction());
        Clockhouse again = synchronizedBy(0);
        again.restart(0);
        again.addServer(1, 0, 0, 0);
        again.pass(1000000);
        synchronizeBy(again, 40);
        checks.due("correction(), not synchronized since restart", 0, again.correction());
        again.pass(1000000);
        synchronizeBy(again, 80);
        checks.due("correction(), i since the synchronization after restart, f is 39", 9, again.correction());
    }

    private void step() {
        Clockhouse x = withServer();
        checks.due("synchronize(), o is 128000", Clockhouse.SLEWED, synchronizeBy(x, STEP_LIMIT));
        checks.due("clock()", 0, x.clock());
        checks.due("pendingSlew()", STEP_LIMIT, x.pendingSlew());
        checks.due("synchronize(), o is 128001", Clockhouse.STEPPED, synchronizeBy(x, STEP_LIMIT + 1));
        checks.due("clock()", STEP_LIMIT + 1, x.clock());
        checks.due("pendingSlew(), nothing is pending", 0, x.pendingSlew());
        checks.due("trueTime()", 0, x.trueTime());
        checks.due("pass(1000000) without a slew", 1000000 + STEP_LIMIT + 1, x.pass(1000000));
        Clockhouse slewedDown = synchronizedBy(-1000);
        synchronizeBy(slewedDown, 200000);
        checks.due("pendingSlew(), nothing is pending", 0, slewedDown.pendingSlew());
        checks.due("pass(1000000) without a slew", 1200000, slewedDown.pass(1000000));
        Clockhouse far = behindBy(LONGEST);
        checks.due("synchronize(), o is 1000000000", Clockhouse.STEPPED, far.synchronize());
        checks.due("clock()", 0, far.clock());
        Clockhouse fraction = withServer();
        fraction.setDrift(-1);
        fraction.pass(1);
        synchronizeBy(fraction, 200000);
        checks.due("clock(), 0.999999 and 200001", 200001, fraction.clock());
        fraction.setDrift(0);
        checks.due("pass(1) to 200002.999999, and not one picosecond more", 200002, fraction.pass(1));
        fraction.setDrift(1);
        checks.due("pass(1) makes the fraction whole", 200004, fraction.pass(1));
    }

    private void slew() {
        Clockhouse x = synchronizedBy(1000);
        checks.due("synchronize(), o is 70", Clockhouse.SLEWED, synchronizeBy(x, 70));
        checks.due("pendingSlew(), in place of 1000", 70, x.pendingSlew());
        checks.due("synchronize(), o is -70", Clockhouse.SLEWED, synchronizeBy(x, -70));
        checks.due("pendingSlew(), in place of 70", -70, x.pendingSlew());
        checks.due("synchronize(), o is 0", Clockhouse.SLEWED, synchronizeBy(x, 0));
        checks.due("pendingSlew(), in place of -70", 0, x.pendingSlew());
        checks.due("synchronize(), o is -128001", Clockhouse.SLEWED, synchronizeBy(x, -STEP_LIMIT - 1));
        checks.due("pendingSlew(), never a step back", -STEP_LIMIT - 1, x.pendingSlew());
        checks.due("clock()", 0, x.clock());
        Clockhouse far = new Clockhouse();
        far.restart(LONGEST);
        heard(far, 1, -1000000, 0);
        checks.due("synchronize(), o is -1001000000", Clockhouse.SLEWED, far.synchronize());
        checks.due("pendingSlew()", -LONGEST - 1000000, far.pendingSlew());
        checks.due("clock()", LONGEST, far.clock());
        checks.due("pass(1000000000) less 500000", 2 * LONGEST - 500000, far.pass(LONGEST));
        Clockhouse partly = synchronizedBy(3);
        partly.pass(1000);
        synchronizeBy(partly, 2);
        checks.due("pendingSlew(), without the rest of what was pending", 2, partly.pendingSlew());
        partly.pass(4000);
        checks.due("clock(), 1000.5 and 4000 * 1.0005 and 2", 5004, partly.clock());
        checks.due("pass(1), nothing is pending", 5005, partly.pass(1));
    }

    private void stratumAndSamples() {
        int[] strata = {1, 2, 13, 14};
        for (int stratum : strata) {
            Clockhouse x = new Clockhouse();
            heard(x, stratum, 0, 0);
            x.synchronize();
            checks.due("stratum() by a peer of " + stratum, stratum + 1, x.stratum());
        }
        Clockhouse x = new Clockhouse();
        heard(x, 6, 0, 900);
        heard(x, 5, 0, 1000);
        heard(x, 5, 0, 1000);
        heard(x, 2, 500, 1000);
        heard(x, 1, 900000, 10);
        x.addServer(1, 0, 0, 0);
        checks.due("survivors()", 7, x.survivors());
        x.synchronize();
        checks.due("stratum() by the peer", 6, x.stratum());
        for (int s = 0; s < 6; s++) {
            checks.due("samples(" + s + "), forgotten", 0, x.samples(s));
        }
        checks.due("servers() are not forgotten", 6, x.servers());
        checks.due("agreement()", 0, x.agreement());
        Clockhouse full = withServer();
        for (int n = 0; n < 8; n++) {
            full.exchange(0, 0, 0, 0);
        }
        synchronizeBy(full, 200000);
        checks.due("samples(0) of eight, behind a step", 0, full.samples(0));
        hearAgain(full, 0, 200007);
        checks.due("samples(0), anew", 1, full.samples(0));
        checks.due("offset(0), anew", 7, full.offset(0));
        checks.due("jitter(0), anew", 0, full.jitter(0));
        peerBehindTheStep();
    }

    /** The step of part 2 makes the samples older by 15000, so that the third server agrees with the others then. */
    private void peerBehindTheStep() {
        Clockhouse x = new Clockhouse();
        x.restart(-LONGEST);
        heard(x, 5, 0, 5000);
        heard(x, 5, 0, 5000);
        heard(x, 1, 20000, 5000);
        checks.due("peer() ahead of it", 0, x.peer());
        checks.due("synchronize()", Clockhouse.STEPPED, x.synchronize());
        checks.due("stratum() by the peer behind it", 2, x.stratum());
    }

    private void results() {
        checks.due("synchronize(), o is 128000", 0, synchronizeBy(withServer(), STEP_LIMIT));
        checks.due("synchronize(), o is 128001", 1, synchronizeBy(withServer(), STEP_LIMIT + 1));
        checks.due("synchronize(), o is 0", 0, synchronizeBy(withServer(), 0));
        checks.due("synchronize(), o is -1000000", 0, synchronizeBy(withServer(), -1000000));
        checks.due("synchronize(), o is 1000000000", 1, behindBy(LONGEST).synchronize());
        checks.due("synchronize(), o is -1000000000", 0, behindBy(-LONGEST).synchronize());
    }

    private void noMajority() {
        dueRefused("synchronize() without servers", STATE, Clockhouse::new, Clockhouse::synchronize);
        dueRefused("synchronize() without samples", STATE, Scenes::silent, Clockhouse::synchronize);
        dueRefused("synchronize() of one in two", STATE, Scenes::divided, Clockhouse::synchronize);
        dueRefused("synchronize() of two in four", STATE, () -> {
            Clockhouse x = divided();
            heard(x, 1, 905, 10);
            heard(x, 1, 3000, 10);
            return x;
        }, Clockhouse::synchronize);
        Clockhouse x = divided();
        heard(x, 1, 905, 10);
        dueTaken("synchronize() of two in three", Clockhouse::synchronize, x);
        checks.dueThrow("synchronize() at once again", STATE, x::synchronize);
        Clockhouse one = withServer();
        one.exchange(0, 0, 0, 0);
        dueTaken("synchronize() of one in one", Clockhouse::synchronize, one);
        Clockhouse restarted = full();
        restarted.restart(0);
        checks.dueThrow("synchronize() after restart", STATE, restarted::synchronize);
    }

    private void stratum() {
        Clockhouse x = new Clockhouse();
        checks.due("stratum() at first", 16, x.stratum());
        heard(x, 14, 0, 0);
        checks.due("stratum() with a candidate", 16, x.stratum());
        x.synchronize();
        checks.due("stratum(), the greatest", 15, x.stratum());
        heard(x, 1, 0, 0);
        checks.due("stratum() until the next synchronization", 15, x.stratum());
        x.synchronize();
        checks.due("stratum(), the least", 2, x.stratum());
        checks.dueThrow("synchronize(), refused", STATE, x::synchronize);
        checks.due("stratum() stays", 2, x.stratum());
        x.restart(0);
        checks.due("stratum() after restart", 16, x.stratum());
    }

    private void steps() {
        Clockhouse x = withServer();
        checks.due("steps() at first", 0, x.steps());
        synchronizeBy(x, STEP_LIMIT);
        checks.due("steps(), slewed", 0, x.steps());
        synchronizeBy(x, STEP_LIMIT + 1);
        checks.due("steps(), stepped", 1, x.steps());
        synchronizeBy(x, -STEP_LIMIT - 1);
        checks.due("steps(), slewed back", 1, x.steps());
        for (int n = 2; n <= 6; n++) {
            synchronizeBy(x, 150000 * n);
            checks.due("steps()", n, x.steps());
        }
        checks.dueThrow("synchronize(), refused", STATE, x::synchronize);
        checks.due("steps()", 6, x.steps());
        x.restart(0);
        checks.due("steps() after restart", 0, x.steps());
    }

    private void synchronizations() {
        Clockhouse x = withServer();
        checks.due("synchronizations() at first", 0, x.synchronizations());
        checks.dueThrow("synchronize(), refused", STATE, x::synchronize);
        checks.due("synchronizations(), refused", 0, x.synchronizations());
        synchronizeBy(x, 0);
        checks.due("synchronizations(), slewed by 0", 1, x.synchronizations());
        synchronizeBy(x, STEP_LIMIT + 1);
        checks.due("synchronizations(), stepped", 2, x.synchronizations());
        synchronizeBy(x, -1000000);
        checks.due("synchronizations(), slewed back", 3, x.synchronizations());
        for (int n = 4; n <= 150; n++) {
            synchronizeBy(x, 1000);
            checks.due("synchronizations()", n, x.synchronizations());
        }
        x.restart(0);
        checks.due("synchronizations() after restart", 0, x.synchronizations());
    }
}
