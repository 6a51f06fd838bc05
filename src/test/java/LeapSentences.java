/** "Leap seconds", with the constants that stand behind it, and the promises 10 and 11. */
final class LeapSentences extends Sentences {
    private static final long DAY = 86400000000L;
    private static final long SMEARING = 20000000000L;
    private static final long BEGINNING = DAY - SMEARING;
    private static final int[] NOT_DAYS = outside(0, 20);

    LeapSentences(Document document, Checks checks) {
        super(document, checks);
    }

    @Override
    void testAll() {
        test("Leap seconds", "Day d of the clock reaches from", this::days);
        test("Leap seconds", "A leap second at the end of a day is smeared", this::smearing);
        test("Leap seconds", "For a reading c in this time", this::whatHasCome);
        test("Leap seconds", "The civil time is the reading of the clock, less", this::insertedAndDeleted);
        test("Leap seconds", "The constants: `NONE = -1`", this::none);
        test("Leap seconds", "`SLEWED = 0, STEPPED = 1`", this::results);
        test("Promise 10", "`long announceLeap", this::announce);
        test("Promise 10", "- `day`", this::announcedDays);
        test("Promise 10", "- `isInsertion`", this::kinds);
        test("Promise 10", "Returns", this::beginnings);
        test("Promise 10", "Throws `IllegalArgumentException`", this::wrongDays);
        test("Promise 10", "Throws `IllegalStateException`", this::announcedOrBegun);
        test("Promise 11", "`long civil()`", this::civil);
    }

    /** How much of a leap second at the end of this day has come, when the clock reads so; inserted or deleted. */
    private void dueCome(int day, long reading, long come) {
        for (int kind = 0; kind < 2; kind++) {
            Clockhouse x = new Clockhouse();
            x.announceLeap(day, kind == 0);
            passUntilTheClockReads(x, reading);
            checks.due("civil() at " + reading + ", kind " + kind, kind == 0 ? reading - come : reading + come,
                    x.civil());
        }
    }

    private void days() {
        for (int day = 0; day < 4; day++) {
            dueCome(day, (day + 1) * DAY - 1, 999999);
            dueCome(day, (day + 1) * DAY, 1000000);
        }
        dueCome(1, DAY, 0);
        dueCome(0, 2 * DAY, 1000000);
    }

    private void smearing() {
        dueCome(0, BEGINNING - 1, 0);
        dueCome(0, BEGINNING, 0);
        dueCome(0, BEGINNING + 20000, 1);
        dueCome(0, DAY - 20001, 999998);
        dueCome(0, DAY - 20000, 999999);
        dueCome(0, DAY, 1000000);
        dueCome(2, DAY + BEGINNING + 20000, 0);
        dueCome(2, 2 * DAY + BEGINNING + 20000, 1);
    }

    private void whatHasCome() {
        long[] behind = {-LONGEST, -20000, -1, 0, 1, 19999, 20000, 39999, 40000, SMEARING / 2, SMEARING - 20001,
            SMEARING - 20000, SMEARING - 1, SMEARING, SMEARING + 1, SMEARING + 20000, 2 * SMEARING};
        long[] come = {0, 0, 0, 0, 0, 0, 1, 1, 2, 500000, 999998, 999999, 999999, 1000000, 1000000, 1000000, 1000000};
        for (int n = 0; n < behind.length; n++) {
            dueCome(0, BEGINNING + behind[n], come[n]);
        }
        dueCome(0, 10 * DAY / 4, 1000000);
        Clockhouse x = new Clockhouse();
        x.restart(LONGEST);
        x.announceLeap(0, true);
        passUntilTheClockReads(x, BEGINNING + 40000);
        checks.due("trueTime() is not yet there", BEGINNING + 40000 - LONGEST, x.trueTime());
        checks.due("civil(), by the reading of the clock", BEGINNING + 40000 - 2, x.civil());
    }

    private void insertedAndDeleted() {
        Clockhouse x = new Clockhouse();
        x.announceLeap(0, true);
        x.announceLeap(1, true);
        x.announceLeap(2, false);
        x.announceLeap(3, false);
        x.announceLeap(4, false);
        passUntilTheClockReads(x, BEGINNING - 1);
        checks.due("civil() before all", BEGINNING - 1, x.civil());
        passUntilTheClockReads(x, DAY + BEGINNING + 40000);
        checks.due("civil(), one inserted and a part", DAY + BEGINNING + 40000 - 1000002, x.civil());
        passUntilTheClockReads(x, 2 * DAY);
        checks.due("civil(), two inserted", 2 * DAY - 2000000, x.civil());
        passUntilTheClockReads(x, 2 * DAY + BEGINNING + 40000);
        checks.due("civil(), a part deleted", 2 * DAY + BEGINNING + 40000 - 1999998, x.civil());
        passUntilTheClockReads(x, 4 * DAY);
        checks.due("civil(), two inserted and two deleted", 4 * DAY, x.civil());
        passUntilTheClockReads(x, 5 * DAY);
        checks.due("civil(), one more deleted", 5 * DAY + 1000000, x.civil());
        Clockhouse none = new Clockhouse();
        none.restart(-LONGEST);
        checks.due("civil() below 0", -LONGEST, none.civil());
        none.pass(1);
        checks.due("civil() below 0", 1 - LONGEST, none.civil());
    }

    private void none() {
        checks.due("NONE", -1, Clockhouse.NONE);
        checks.due("peer() when there is none", Clockhouse.NONE, new Clockhouse().peer());
    }

    private void results() {
        checks.due("SLEWED", 0, Clockhouse.SLEWED);
        checks.due("STEPPED", 1, Clockhouse.STEPPED);
    }

    private void announce() {
        Clockhouse x = new Clockhouse();
        x.announceLeap(0, true);
        checks.due("clock()", 0, x.clock());
        checks.due("civil()", 0, x.civil());
        checks.dueThrow("announceLeap(0, true), it is announced", STATE, () -> x.announceLeap(0, true));
        passUntilTheClockReads(x, DAY);
        checks.due("civil(), the second has come", DAY - 1000000, x.civil());
        Clockhouse y = new Clockhouse();
        passUntilTheClockReads(y, DAY);
        checks.due("civil(), nothing was announced", DAY, y.civil());
    }

    private void announcedDays() {
        Clockhouse x = new Clockhouse();
        dueTaken("announceLeap(20, true)", y -> y.announceLeap(20, true), x);
        dueTaken("announceLeap(0, true)", y -> y.announceLeap(0, true), x);
        for (int day = 1; day < 20; day++) {
            int between = day;
            dueTaken("announceLeap(" + day + ", false)", y -> y.announceLeap(between, false), x);
        }
        for (int day = 0; day <= 20; day++) {
            int again = day;
            checks.dueThrow("announceLeap(" + day + ") again", STATE, () -> x.announceLeap(again, true));
        }
    }

    private void kinds() {
        dueCome(0, DAY, 1000000);
        Clockhouse x = new Clockhouse();
        x.announceLeap(0, true);
        checks.dueThrow("announceLeap(0, false)", STATE, () -> x.announceLeap(0, false));
        passUntilTheClockReads(x, DAY);
        checks.due("civil(), inserted as it was announced first", DAY - 1000000, x.civil());
        Clockhouse y = new Clockhouse();
        y.announceLeap(0, false);
        checks.dueThrow("announceLeap(0, true)", STATE, () -> y.announceLeap(0, true));
        passUntilTheClockReads(y, DAY);
        checks.due("civil(), deleted as it was announced first", DAY + 1000000, y.civil());
    }

    private void beginnings() {
        Clockhouse x = new Clockhouse();
        checks.due("announceLeap(0, true)", 66400000000L, x.announceLeap(0, true));
        checks.due("announceLeap(1, false)", 152800000000L, x.announceLeap(1, false));
        checks.due("announceLeap(19, true)", 1708000000000L, x.announceLeap(19, true));
        checks.due("announceLeap(20, false)", 1794400000000L, x.announceLeap(20, false));
    }

    private void wrongDays() {
        int[] wrapped = {31, 32, 33, 52, 64, -32, -12};
        for (int day : NOT_DAYS) {
            dueRefused("announceLeap(" + day + ", true)", ARGUMENT, Scenes::busy, x -> x.announceLeap(day, true));
        }
        for (int day : wrapped) {
            dueRefused("announceLeap(" + day + ", false)", ARGUMENT, Scenes::busy, x -> x.announceLeap(day, false));
        }
    }

    private static Clockhouse reading(long reading) {
        Clockhouse x = new Clockhouse();
        passUntilTheClockReads(x, reading);
        return x;
    }

    private void announcedOrBegun() {
        for (int kind = 0; kind < 2; kind++) {
            boolean isInsertion = kind == 0;
            dueRefused("announceLeap(0) again", STATE, Scenes::busy, x -> x.announceLeap(0, isInsertion));
            dueRefused("announceLeap(2) again", STATE, Scenes::busy, x -> x.announceLeap(2, isInsertion));
            checks.due("announceLeap(0) one before the beginning", BEGINNING,
                    reading(BEGINNING - 1).announceLeap(0, isInsertion));
            long[] late = {BEGINNING, BEGINNING + 1, DAY - 1, DAY, DAY + 1};
            for (long clock : late) {
                dueRefused("announceLeap(0) at " + clock, STATE, () -> reading(clock),
                        x -> x.announceLeap(0, isInsertion));
            }
            checks.due("announceLeap(1) when day 0 has ended", BEGINNING + DAY,
                    reading(DAY).announceLeap(1, isInsertion));
        }
        Clockhouse behind = new Clockhouse();
        behind.restart(-1);
        passMany(behind, 66, LONGEST);
        behind.pass(400000000);
        checks.due("announceLeap(0) by the clock, not by true time", BEGINNING, behind.announceLeap(0, true));
        Clockhouse ahead = new Clockhouse();
        ahead.restart(1);
        passMany(ahead, 66, LONGEST);
        ahead.pass(399999999);
        checks.dueThrow("announceLeap(0) by the clock, not by true time", STATE, () -> ahead.announceLeap(0, true));
        Clockhouse justBefore = reading(BEGINNING - 1);
        justBefore.setDrift(-300);
        justBefore.pass(1);
        checks.due("announceLeap(0) at 0.0003 before", BEGINNING, justBefore.announceLeap(0, true));
        Clockhouse again = reading(DAY);
        again.restart(0);
        checks.due("announceLeap(0) after restart", BEGINNING, again.announceLeap(0, true));
    }

    /** A step leads the clock over the beginning; the part that has come goes by the reading alone. */
    private void civil() {
        Clockhouse x = new Clockhouse();
        checks.due("civil() at first", 0, x.civil());
        x.restart(-LONGEST);
        x.announceLeap(0, true);
        passUntilTheClockReads(x, BEGINNING - 1);
        checks.due("civil() before", BEGINNING - 1, x.civil());
        heard(x, 1, 20001 - LONGEST / 1000, 0);
        x.synchronize();
        checks.due("clock() behind the step", BEGINNING + 20000 + 999000000, x.clock());
        checks.due("civil() behind the step", BEGINNING + 20000 + 999000000 - 49951, x.civil());
        x.restart(7);
        checks.due("civil() after restart", 7, x.civil());
        passUntilTheClockReads(x, DAY);
        checks.due("civil(), nothing was announced since restart", DAY, x.civil());
    }
}
