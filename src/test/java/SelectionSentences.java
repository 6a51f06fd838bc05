/** "Selection", and the promises 21 to 28. */
final class SelectionSentences extends Sentences {
    SelectionSentences(Document document, Checks checks) {
        super(document, checks);
    }

    @Override
    void testAll() {
        test("Selection", "The candidates are all servers with a sample.", this::candidates);
        test("Selection", "The interval of a candidate", this::bothEnds);
        test("Selection", "Let m be the greatest number of intervals", this::greatestNumber);
        test("Selection", "The low end of the intersection", this::intersection);
        test("Selection", "There is a majority", this::majority);
        test("Selection", "The survivors are the agreeing servers at first.", this::survivorsAtFirst);
        test("Selection", "As long as there are more than 3 of them", this::clustering);
        test("Selection", "The weight of a survivor", this::weights);
        test("Selection", "The combined offset is the sum", this::combination);
        test("Selection", "The peer is the survivor", this::preference);
        test("Promise 21", "`int agreement()`", this::agreement);
        test("Promise 22", "`boolean hasMajority()`", this::hasMajority);
        test("Promise 23", "`int agreeing()`", this::agreeing);
        test("Promise 24", "`long low()", this::low);
        test("Promise 24", "Throws", () -> dueNoCandidates("low()", Clockhouse::low));
        test("Promise 25", "`long high()", this::high);
        test("Promise 25", "Throws", () -> dueNoCandidates("high()", Clockhouse::high));
        test("Promise 26", "`int survivors()`", this::survivors);
        test("Promise 27", "`long combinedOffset()", this::combinedOffset);
        test("Promise 27", "Throws", () -> dueNoCandidates("combinedOffset()", Clockhouse::combinedOffset));
        test("Promise 28", "`int peer()`", this::peer);
    }

    // ---- what several sentences need

    interface Asked {
        long of(Clockhouse x);
    }

    private void dueNoCandidates(String call, Asked asked) {
        dueRefused(call + " without servers", STATE, Clockhouse::new, asked::of);
        dueRefused(call + " without samples", STATE, Scenes::silent, asked::of);
        checks.dueThrow(call + " after restart", STATE, () -> {
            Clockhouse x = full();
            x.restart(0);
            return asked.of(x);
        });
        dueTaken(call + " of one candidate", asked::of, withIntervals(0, 0));
        dueTaken(call + " without a majority", asked::of, divided());
    }

    private void dueWithoutCandidates(String call, long want, Asked asked) {
        checks.due(call + " without servers", want, asked.of(new Clockhouse()));
        checks.due(call + " without samples", want, asked.of(silent()));
        Clockhouse x = full();
        x.restart(0);
        checks.due(call + " after restart", want, asked.of(x));
    }

    /** Servers whose intervals have these ends: the lower and the upper of the first, of the second, and so on. */
    private static Clockhouse withIntervals(int... ends) {
        Clockhouse x = new Clockhouse();
        for (int n = 0; n + 1 < ends.length; n += 2) {
            heard(x, 1, (ends[n] + ends[n + 1]) / 2, (ends[n + 1] - ends[n]) / 2);
        }
        return x;
    }

    /** So many servers that agree, and so many behind them that agree with nobody. */
    private static Clockhouse ofCandidates(int agreeing, int alone) {
        Clockhouse x = new Clockhouse();
        for (int n = 0; n < agreeing; n++) {
            heard(x, 1, 0, 10);
        }
        for (int n = 0; n < alone; n++) {
            heard(x, 1, 1000 * (n + 1), 10);
        }
        return x;
    }

    /** Servers with these offsets, which agree and have no jitter. */
    private static Clockhouse withOffsets(int... offsets) {
        Clockhouse x = new Clockhouse();
        for (int offset : offsets) {
            heard(x, 1, offset, 100000);
        }
        return x;
    }

    /** Servers that agree: the offset and the jitter of the first, of the second, and so on. */
    private static Clockhouse withJitters(int... pairs) {
        Clockhouse x = new Clockhouse();
        for (int n = 0; n + 1 < pairs.length; n += 2) {
            heardTwice(x, pairs[n], 100000, pairs[n + 1]);
        }
        return x;
    }

    /** Two servers that agree, of these distances; the first has the offset told, the second has none. */
    private static long combinedOf(int offset, int distance, int otherDistance) {
        Clockhouse x = new Clockhouse();
        heard(x, 1, offset, distance);
        heard(x, 1, 0, otherDistance);
        return x.combinedOffset();
    }

    // ---- "Selection"

    private void candidates() {
        Clockhouse x = new Clockhouse();
        x.addServer(1, 0, 0, 1000);
        x.addServer(1, 0, 0, 1000);
        heard(x, 1, 5000, 10);
        checks.due("agreeing() of one candidate in three servers", 4, x.agreeing());
        checks.due("hasMajority() of one candidate in three servers", true, x.hasMajority());
        x.exchange(0, 0, 0, 0);
        checks.due("hasMajority() of one in two candidates", false, x.hasMajority());
        x.exchange(1, 0, 0, 0);
        checks.due("agreeing() of three candidates", 3, x.agreeing());
        x.synchronize();
        checks.due("agreement(), all are forgotten", 0, x.agreement());
        x.exchange(2, 0, 0, 0);
        checks.due("agreeing(), one has a sample again", 4, x.agreeing());
    }

    private void bothEnds() {
        checks.due("agreement(), one ends where the other begins", 2, withIntervals(0, 10, 10, 20).agreement());
        checks.due("agreement(), one apart", 1, withIntervals(0, 10, 11, 21).agreement());
        checks.due("agreement(), one ends where the other begins", 2, withIntervals(10, 20, 0, 10).agreement());
        checks.due("agreement(), one apart", 1, withIntervals(11, 21, 0, 10).agreement());
        checks.due("agreement() of a point at a lower end", 2, withIntervals(0, 10, 0, 0).agreement());
        checks.due("agreement() of a point at an upper end", 2, withIntervals(0, 10, 10, 10).agreement());
        checks.due("agreement() of a point below", 1, withIntervals(0, 10, -1, -1).agreement());
        checks.due("agreement() of a point above", 1, withIntervals(0, 10, 11, 11).agreement());
        checks.due("agreement() of a point with itself", 2, withIntervals(7, 7, 7, 7).agreement());
        checks.due("low() of one", -30, withIntervals(-30, 50).low());
        checks.due("high() of one", 50, withIntervals(-30, 50).high());
        checks.due("low() of a point", 3, withIntervals(3, 3).low());
        checks.due("high() of a point", 3, withIntervals(3, 3).high());
    }

    private void greatestNumber() {
        checks.due("agreement() of none", 0, new Clockhouse().agreement());
        checks.due("agreement() of one", 1, withIntervals(0, 10).agreement());
        checks.due("agreement() of all apart", 1, withIntervals(0, 8, 10, 18, 20, 28, 30, 38).agreement());
        checks.due("agreement() of a chain, where not all meet", 2, withIntervals(0, 10, 8, 20, 18, 30).agreement());
        checks.due("agreement() of three that meet", 3, withIntervals(0, 20, 8, 30, 18, 40).agreement());
        checks.due("agreement() of two and of three", 3,
                withIntervals(0, 10, 2, 12, 50, 60, 52, 62, 54, 64).agreement());
        checks.due("agreement() of one in the other", 2, withIntervals(0, 100, 40, 60).agreement());
        checks.due("agreement() of eight", 8,
                withIntervals(0, 20, 2, 20, 4, 20, 6, 20, 8, 20, 10, 20, 20, 40, 20, 60).agreement());
    }

    private void intersection() {
        Clockhouse two = withIntervals(50, 60, 52, 62, 0, 10, 4, 14);
        checks.due("low(), the least of two places", 4, two.low());
        checks.due("agreeing() at the least", 4 + 8, two.agreeing());
        checks.due("high() at the least", 10, two.high());
        Clockhouse chain = withIntervals(0, 10, 4, 20, 12, 30);
        checks.due("low() of a chain", 4, chain.low());
        checks.due("agreeing(), those that contain the low end", 1 + 2, chain.agreeing());
        checks.due("high() of a chain", 10, chain.high());
        Clockhouse tower = withIntervals(-100, 100, -50, 60, -20, 70, 80, 90);
        checks.due("low() of three", -20, tower.low());
        checks.due("high(), the least of the upper ends", 60, tower.high());
        checks.due("agreeing() of three", 7, tower.agreeing());
        Clockhouse touching = withIntervals(0, 10, 10, 20);
        checks.due("low() of two that touch", 10, touching.low());
        checks.due("high() of two that touch", 10, touching.high());
        Clockhouse apart = withIntervals(30, 40, 10, 20, -20, -10);
        checks.due("low() of all apart", -20, apart.low());
        checks.due("high() of all apart", -10, apart.high());
        checks.due("agreeing() of all apart", 4, apart.agreeing());
        Clockhouse above = withIntervals(0, 10, 20, 30, 22, 32);
        checks.due("low() of two, one is below them", 22, above.low());
        checks.due("high() of two, one is below them", 30, above.high());
        Clockhouse later = withIntervals(0, 40, 10, 40, 20, 40, 20, 24);
        checks.due("low() of all four", 20, later.low());
        checks.due("high() of all four", 24, later.high());
    }

    private void majority() {
        checks.due("0 of 0", false, new Clockhouse().hasMajority());
        for (int all = 1; all <= 8; all++) {
            for (int agreeing = 1; agreeing <= all; agreeing++) {
                checks.due(agreeing + " of " + all, 2 * agreeing > all,
                        ofCandidates(agreeing, all - agreeing).hasMajority());
            }
        }
    }

    private void survivorsAtFirst() {
        checks.due("survivors() of one", 1, withOffsets(5).survivors());
        checks.due("survivors() of two", 3, withOffsets(5, 90000).survivors());
        checks.due("survivors() of three", 7, withOffsets(0, 1, 99999).survivors());
        Clockhouse x = ofCandidates(2, 5);
        checks.due("survivors(), the agreeing alone", 3, x.survivors());
        Clockhouse y = ofCandidates(0, 4);
        checks.due("survivors() without a majority", 1, y.survivors());
    }

    private void clustering() {
        checks.due("three are enough", 7, withOffsets(0, 0, 90000).survivors());
        checks.due("four, the widest goes", 7, withOffsets(0, 0, 0, 1).survivors());
        checks.due("four, the first goes", 14, withOffsets(3, 0, 0, 0).survivors());
        checks.due("four, down to three and no further", 14, withOffsets(90000, 0, 0, 50000).survivors());
        checks.due("eight, down to three", 7, withOffsets(0, 0, 0, 10, 20, 30, 40, 50).survivors());
        checks.due("eight without any spread", 255, withOffsets(7, 7, 7, 7, 7, 7, 7, 7).survivors());
        checks.due("equal spreads, the greatest number goes", 7, withOffsets(0, 10, 0, 10).survivors());
        checks.due("equal spreads of the first two, the second goes", 13, withOffsets(30, -30, 0, 0).survivors());
        checks.due("without sign, both sides", 1 + 2 + 4, withOffsets(0, 0, 0, -50, 50).survivors());
        checks.due("spread 30, jitter 29", 7, withJitters(0, 29, 0, 80, 0, 80, 30, 80).survivors());
        checks.due("spread 30, jitter 30", 15, withJitters(0, 30, 0, 80, 0, 80, 30, 80).survivors());
        checks.due("spread 30, jitter 31", 15, withJitters(0, 31, 0, 80, 0, 80, 30, 80).survivors());
        checks.due("the least jitter is of the last", 7, withJitters(0, 80, 0, 80, 0, 80, 30, 29).survivors());
        checks.due("the least jitter is of the last", 15, withJitters(0, 80, 0, 80, 0, 80, 30, 30).survivors());
        checks.due("spread 89 / 3, rounded down, jitter 28", 7, withJitters(0, 28, 0, 80, 1, 80, 30, 80).survivors());
        checks.due("spread 89 / 3, rounded down, jitter 29", 15, withJitters(0, 29, 0, 80, 1, 80, 30, 80).survivors());
        checks.due("the spread of the second, of those that are left", 15,
                withJitters(0, 50, 0, 50, 0, 50, 40, 50, 400, 50).survivors());
        checks.due("the jitter of those that are left", 15,
                withJitters(0, 50, 0, 50, 0, 50, 40, 50, 400, 1).survivors());
        Clockhouse x = withJitters(0, 31, 0, 80, 0, 80, 30, 80);
        heard(x, 1, 900000, 10);
        checks.due("the jitter 0 of one that does not agree", 15, x.survivors());
    }

    /** The weight shows as the part that the first server has in what is combined. */
    private void weights() {
        checks.due("distances 0 and 1000000: 1000000 and 1", 999999, combinedOf(1000000, 0, 1000000));
        checks.due("distances 1 and 0: 500000 and 1000000", -1, combinedOf(-1, 1, 0));
        checks.due("distances 1 and 3: 500000 and 250000", 2, combinedOf(3, 1, 3));
        checks.due("distances 499999 and 999999: 2 and 1", 200000, combinedOf(300000, 499999, 999999));
        checks.due("distances 500000 and 999999: 1 and 1", 150000, combinedOf(300000, 500000, 999999));
        checks.due("distances 499999 and 1000000: 2 and at least 1", 200000, combinedOf(300000, 499999, 1000000));
        checks.due("distances 333332 and 999999: 3 and 1", 225000, combinedOf(300000, 333332, 999999));
        checks.due("distances 333333 and 999999: 2 and 1", 200000, combinedOf(300000, 333333, 999999));
        checks.due("distances 1000000 and 1000000: at least 1 each", 150000, combinedOf(300000, 1000000, 1000000));
        Clockhouse far = new Clockhouse();
        far.addServer(1, 700000, 1000000, 1000000);
        far.exchange(0, 0, 0, 0);
        checks.due("distance 1500000: at least 1", 700000, far.combinedOffset());
    }

    private void combination() {
        checks.due("one", -77, withOffsets(-77).combinedOffset());
        checks.due("-1 / 2", -1, withOffsets(-1, 0).combinedOffset());
        checks.due("-2 / 2", -1, withOffsets(-2, 0).combinedOffset());
        checks.due("-1 / 3", -1, withOffsets(-1, 0, 0).combinedOffset());
        checks.due("1 / 3", 0, withOffsets(1, 0, 0).combinedOffset());
        checks.due("2 / 3", 0, withOffsets(1, 1, 0).combinedOffset());
        checks.due("3 / 3", 1, withOffsets(1, 1, 1).combinedOffset());
        checks.due("the survivors alone", 2, withOffsets(1, 2, 3, 99).combinedOffset());
        Clockhouse x = withOffsets(1, 2, 3);
        heard(x, 1, 900000, 0);
        checks.due("the agreeing alone", 2, x.combinedOffset());
        Clockhouse y = new Clockhouse();
        y.restart(-LONGEST);
        heard(y, 1, 1000000, 0);
        heard(y, 1, 999999, 1);
        checks.due("the greatest weights and offsets, rounded down", 1000999999, y.combinedOffset());
        Clockhouse z = new Clockhouse();
        z.restart(LONGEST);
        heard(z, 1, -1000000, 0);
        heard(z, 1, -999999, 1);
        checks.due("the same below 0", -1001000000, z.combinedOffset());
    }

    private static Clockhouse ofStrata(int... pairs) {
        Clockhouse x = new Clockhouse();
        for (int n = 0; n + 1 < pairs.length; n += 2) {
            heard(x, pairs[n], 0, pairs[n + 1]);
        }
        return x;
    }

    private void preference() {
        checks.due("one", 0, ofStrata(14, 1000000).peer());
        checks.due("the least stratum, the first", 0, ofStrata(1, 900, 2, 0).peer());
        checks.due("the least stratum, the last", 2, ofStrata(3, 0, 2, 0, 1, 900).peer());
        checks.due("the least distance, the first", 0, ofStrata(2, 899, 2, 900).peer());
        checks.due("the least distance, the last", 1, ofStrata(2, 900, 2, 899).peer());
        checks.due("the least number", 0, ofStrata(2, 900, 2, 900).peer());
        checks.due("the least number of those of the least distance", 1, ofStrata(2, 901, 2, 900, 2, 900).peer());
        checks.due("the least number of eight", 3,
                ofStrata(14, 0, 2, 9, 2, 8, 1, 7, 1, 7, 1, 8, 2, 0, 1, 7).peer());
        Clockhouse agreeing = ofStrata(5, 100, 4, 100);
        heard(agreeing, 1, 900000, 0);
        checks.due("one that does not agree is no survivor", 1, agreeing.peer());
        Clockhouse clustered = ofStrata(5, 1000, 5, 1000, 4, 1000);
        heard(clustered, 1, 500, 1000);
        checks.due("one that clustering took is no survivor", 2, clustered.peer());
    }

    // ---- promises

    private void agreement() {
        dueWithoutCandidates("agreement()", 0, Clockhouse::agreement);
        checks.due("agreement() of one", 1, ofCandidates(1, 0).agreement());
        checks.due("agreement() of eight", 8, ofCandidates(8, 0).agreement());
        checks.due("agreement() of one in eight", 1, ofCandidates(0, 8).agreement());
        checks.due("agreement(), clustering takes none away", 4, withOffsets(0, 0, 0, 900).agreement());
        Clockhouse x = withIntervals(0, 10, 12, 22);
        checks.due("agreement() at first", 1, x.agreement());
        x.pass(66666);
        checks.due("agreement() before the samples have aged", 1, x.agreement());
        x.pass(1);
        checks.due("agreement() when both have grown by 1", 2, x.agreement());
    }

    private void hasMajority() {
        checks.due("without servers", false, new Clockhouse().hasMajority());
        checks.due("without samples", false, silent().hasMajority());
        checks.due("one of one", true, ofCandidates(1, 0).hasMajority());
        checks.due("one of two", false, ofCandidates(1, 1).hasMajority());
        checks.due("two of three", true, ofCandidates(2, 1).hasMajority());
        checks.due("four of eight", false, ofCandidates(4, 4).hasMajority());
        checks.due("five of eight", true, ofCandidates(5, 3).hasMajority());
        Clockhouse x = full();
        x.restart(0);
        checks.due("after restart", false, x.hasMajority());
    }

    private void agreeing() {
        dueWithoutCandidates("agreeing()", 0, Clockhouse::agreeing);
        for (int s = 0; s < 8; s++) {
            Clockhouse x = new Clockhouse();
            for (int n = 0; n < 8; n++) {
                x.addServer(1, 0, 0, 0);
            }
            x.exchange(s, 0, 0, 0);
            checks.due("agreeing() of the server " + s, 1 << s, x.agreeing());
        }
        checks.due("agreeing() of eight", 255, ofCandidates(8, 0).agreeing());
        checks.due("agreeing(), clustering takes none away", 15, withOffsets(0, 0, 0, 900).agreeing());
    }

    private void low() {
        checks.due("low() of one", -30, withIntervals(-30, 50).low());
        checks.due("low() of two", -10, withIntervals(-30, 50, -10, 70).low());
        checks.due("low() without a majority", -30, withIntervals(60, 70, -30, 50).low());
        Clockhouse x = new Clockhouse();
        x.restart(LONGEST);
        x.addServer(1, -1000000, 1000000, 1000000);
        x.exchange(0, 0, 0, 0);
        checks.due("low() far below 0", -LONGEST - 2500000, x.low());
        Clockhouse y = withIntervals(0, 0);
        y.pass(66667);
        checks.due("low() of a sample that has aged", -1, y.low());
    }

    private void high() {
        checks.due("high() of one", 50, withIntervals(-30, 50).high());
        checks.due("high() of two", 50, withIntervals(-30, 50, -10, 70).high());
        checks.due("high() of two, the second ends first", 40, withIntervals(-30, 50, -10, 40).high());
        checks.due("high() below 0", -20, withIntervals(-60, -20).high());
        checks.due("high() without a majority", 50, withIntervals(60, 70, -30, 50).high());
        Clockhouse x = new Clockhouse();
        x.restart(-LONGEST);
        x.addServer(1, 1000000, 1000000, 1000000);
        x.exchange(0, 0, 0, 0);
        checks.due("high() far above 0", LONGEST + 2500000, x.high());
        Clockhouse y = withIntervals(0, 0);
        y.pass(66667);
        checks.due("high() of a sample that has aged", 1, y.high());
    }

    private void survivors() {
        dueWithoutCandidates("survivors()", 0, Clockhouse::survivors);
        for (int s = 0; s < 8; s++) {
            Clockhouse x = new Clockhouse();
            for (int n = 0; n < 8; n++) {
                x.addServer(1, 0, 0, 0);
            }
            x.exchange(s, 0, 0, 0);
            checks.due("survivors() of the server " + s, 1 << s, x.survivors());
        }
        checks.due("survivors() of eight", 255, withOffsets(0, 0, 0, 0, 0, 0, 0, 0).survivors());
        checks.due("survivors(), the last three", 224, withOffsets(900, 800, 700, 600, 500, 0, 0, 0).survivors());
    }

    private void combinedOffset() {
        checks.due("combinedOffset() of one", 5, withOffsets(5).combinedOffset());
        checks.due("combinedOffset() below 0, rounded down", -1, withOffsets(0, 0, -1).combinedOffset());
        checks.due("combinedOffset() without a majority", -15, withIntervals(60, 70, -30, 0).combinedOffset());
        Clockhouse x = withOffsets(12, 12);
        x.pass(1000);
        checks.due("combinedOffset() of samples taken before", 12, x.combinedOffset());
        checks.due("clock() is left alone", 1000, x.clock());
    }

    private void peer() {
        dueWithoutCandidates("peer()", Clockhouse.NONE, Clockhouse::peer);
        checks.due("peer() of one", 0, ofStrata(14, 0).peer());
        checks.due("peer() without a majority", 1, withIntervals(60, 70, -30, 50).peer());
        Clockhouse x = new Clockhouse();
        for (int n = 0; n < 8; n++) {
            x.addServer(14 - n, 0, 0, 0);
        }
        for (int s = 0; s < 8; s++) {
            x.exchange(s, 0, 0, 0);
            checks.due("peer() of " + (s + 1), s, x.peer());
        }
    }
}
