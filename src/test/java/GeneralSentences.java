/** "What it is", and what stands ahead of the parts of "Terms". */
final class GeneralSentences extends Sentences {
    GeneralSentences(Document document, Checks checks) {
        super(document, checks);
    }

    @Override
    void testAll() {
        test("What it is", "A network time client", this::neverBack);
        test("What it is", "An object is used for at most 512 calls", this::theLastCall);
        test("Terms", "The object simulates", this::threeTimes);
        test("Terms", "Exchanges are made with delays", this::askingChangesNothing);
        test("Terms", "Times are in microseconds", this::microseconds);
        test("Terms", "Divisions of two numbers are rounded down", this::roundedDown);
        test("Terms", "A method throws IndexOutOfBoundsException", this::orderOfExceptions);
        test("Terms", "A call that throws changes nothing.", this::refusedCalls);
    }

    /** At the slowest that there is, where a microsecond of true time moves the clock by 998700 picoseconds. */
    private void neverBack() {
        Clockhouse x = synchronizedBy(0);
        x.pass(1);
        hearAgain(x, 0, -1000000);
        x.synchronize();
        x.setDrift(-300);
        checks.due("correction()", -500, x.correction());
        checks.due("clock() behind the slewing by -1000001", 1, x.clock());
        long before = x.clock();
        for (int i = 0; i < 400; i++) {
            long now = x.pass(1);
            checks.due("the clock goes on or stands", true, now == before || now == before + 1);
            before = now;
        }
        checks.due("clock() after 1 + 400 * 0.9987", 400, x.clock());
        Clockhouse y = new Clockhouse();
        y.restart(LONGEST);
        heard(y, 1, -1000000, 0);
        y.synchronize();
        checks.due("clock() when all servers are behind", LONGEST, y.clock());
    }

    private void theLastCall() {
        Clockhouse x = new Clockhouse();
        passMany(x, 511, LONGEST);
        checks.due("pass, the 512th call", 512000000000L, x.pass(LONGEST));
        Clockhouse y = new Clockhouse();
        y.addServer(1, 7, 0, 0);
        for (int i = 1; i < 510; i++) {
            y.exchange(0, 0, i, 0);
        }
        checks.due("exchange, the 511th call", 1000000, y.exchange(0, 500000, 100000, 500000));
        checks.due("offset, the 512th call", 7, y.offset(0));
    }

    private void threeTimes() {
        Clockhouse x = new Clockhouse();
        x.restart(-70);
        x.addServer(1, 400, 0, 0);
        x.exchange(0, 0, 10, 0);
        checks.due("true time", 10, x.trueTime());
        checks.due("the clock of the client", -60, x.clock());
        checks.due("the clock of the server less the client's", 470, x.offset(0));
    }

    private static Clockhouse heardOfTwo(boolean isAsked) {
        Clockhouse x = new Clockhouse();
        x.setDrift(-7);
        String answers = "";
        for (int s = 0; s < 2; s++) {
            x.addServer(3 - s, 900 * s, 11, 2000);
            x.exchange(s, 300, 20, 100);
            x.exchange(s, 310, 20, 100);
            answers += isAsked ? stateOf(x) : "";
            x.pass(70000);
            answers += isAsked ? stateOf(x) : "";
        }
        return x;
    }

    private void askingChangesNothing() {
        checks.due("all that follows", changesOf(heardOfTwo(false)), changesOf(heardOfTwo(true)));
        Clockhouse x = heardOfTwo(false);
        checks.due("what was asked, asked again", stateOf(x), stateOf(x));
        checks.due("samples(0), none was taken by asking", 2, x.samples(0));
        checks.due("the time that passed by the calls", 2 * 850 + 2 * 70000, x.trueTime());
    }

    private void microseconds() {
        Clockhouse x = new Clockhouse();
        x.setDrift(1);
        checks.due("a second with one millionth more", 1000001, x.pass(1000000));
        x.addServer(1, 1, 0, 0);
        x.exchange(0, 0, 0, 0);
        checks.due("offset of an error of 1 and a clock that is 1 ahead", 0, x.offset(0));
    }

    private long offsetAfter(int out, int processing, int back) {
        Clockhouse x = new Clockhouse();
        x.addServer(1, 0, 0, 0);
        x.exchange(0, out, processing, back);
        return x.offset(0);
    }

    private long combined(int a, int b) {
        Clockhouse x = new Clockhouse();
        heard(x, 1, a, 50);
        heard(x, 1, b, 50);
        return x.combinedOffset();
    }

    private void roundedDown() {
        checks.due("offset -1 / 2", -1, offsetAfter(0, 0, 1));
        checks.due("offset -2 / 2", -1, offsetAfter(0, 0, 2));
        checks.due("offset -3 / 2", -2, offsetAfter(0, 0, 3));
        checks.due("offset 1 / 2", 0, offsetAfter(1, 0, 0));
        checks.due("offset 3 / 2", 1, offsetAfter(3, 0, 0));
        checks.due("combinedOffset -1 / 2", -1, combined(-1, 0));
        checks.due("combinedOffset -2 / 2", -1, combined(-1, -1));
        checks.due("combinedOffset -3 / 2", -2, combined(-1, -2));
        checks.due("combinedOffset 1 / 2", 0, combined(1, 0));
        checks.due("combinedOffset 3 / 2", 1, combined(1, 2));
    }

    private void orderOfExceptions() {
        checks.dueThrow("pass, too short at the end of time", ARGUMENT, () -> beforeTheEndOfTime(0).pass(0));
        checks.dueThrow("pass, too long at the end of time", ARGUMENT, () -> beforeTheEndOfTime(0).pass(LONGEST + 1));
        checks.dueThrow("announceLeap, day and time wrong", ARGUMENT, () -> new Clockhouse().announceLeap(-1, true));
        checks.dueThrow("announceLeap, day wrong", ARGUMENT, () -> new Clockhouse().announceLeap(21, true));
        checks.dueThrow("addServer, stratum wrong and full", ARGUMENT, () -> full().addServer(0, 0, 0, 0));
        checks.dueThrow("addServer, error wrong and full", ARGUMENT, () -> full().addServer(1, 1000001, 0, 0));
        checks.dueThrow("addServer, delay wrong and full", ARGUMENT, () -> full().addServer(1, 0, -1, 0));
        checks.dueThrow("addServer, dispersion wrong and full", ARGUMENT, () -> full().addServer(1, 0, 0, -1));
        checks.dueThrow("setError, server and error wrong", INDEX, () -> full().setError(8, 1000001));
        checks.dueThrow("exchange, server and out wrong", INDEX, () -> full().exchange(-1, -1, 0, 0));
        checks.dueThrow("exchange, server and processing wrong", INDEX, () -> full().exchange(8, 0, 100001, 0));
        checks.dueThrow("exchange, server and back wrong", INDEX, () -> full().exchange(8, 0, 0, 500001));
        checks.dueThrow("exchange, server wrong at the end of time", INDEX,
                () -> beforeTheEndOfTime(0).exchange(1, 1, 1, 1));
        checks.dueThrow("exchange, out wrong at the end of time", ARGUMENT,
                () -> beforeTheEndOfTime(0).exchange(0, 500001, 0, 0));
        checks.dueThrow("exchange, all wrong at the end of time", INDEX,
                () -> beforeTheEndOfTime(0).exchange(1, -1, 0, 0));
    }

    private static void refuseAll(Clockhouse x) {
        asked(() -> x.pass(0), () -> x.pass(LONGEST + 1), () -> x.setDrift(301), () -> x.setDrift(-301));
        asked(() -> x.announceLeap(-1, true), () -> x.announceLeap(21, true), () -> x.announceLeap(0, false));
        asked(() -> x.addServer(0, 1, 1, 1), () -> x.addServer(15, 1, 1, 1), () -> x.addServer(1, 1000001, 1, 1));
        asked(() -> x.addServer(1, 1, -1, 1), () -> x.addServer(1, 1, 1, 1000001));
        asked(() -> x.setError(0, 1000001), () -> x.setError(8, 5), () -> x.setError(-1, 5));
        asked(() -> x.exchange(0, 500001, 9, 9), () -> x.exchange(0, 9, -1, 9), () -> x.exchange(0, 9, 9, 500001));
        asked(() -> x.exchange(8, 9, 9, 9), () -> x.samples(8), () -> x.offset(8), () -> x.delay(8));
        asked(() -> x.jitter(8), () -> x.distance(8));
        Checks.outcome(() -> {
            x.restart(LONGEST + 1);
            return 0;
        });
    }

    /** Each refused call by itself stands with its promise. */
    private void refusedCalls() {
        Clockhouse x = busy();
        refuseAll(x);
        checks.due("all that follows many refused calls", futureOf(busy()), futureOf(x));
        Clockhouse y = full();
        refuseAll(y);
        asked(() -> y.addServer(1, 1, 1, 1));
        checks.due("all that follows many refused calls, with 8 servers", futureOf(full()), futureOf(y));
        Clockhouse z = silent();
        asked(z::synchronize, z::low, z::high, z::combinedOffset);
        asked(() -> z.offset(0), () -> z.delay(0), () -> z.jitter(0), () -> z.distance(0));
        checks.due("all that follows refused calls without samples", futureOf(silent()), futureOf(z));
        Clockhouse w = divided();
        asked(w::synchronize);
        checks.due("all that follows a refused synchronize()", futureOf(divided()), futureOf(w));
        Clockhouse v = beforeTheEndOfTime(5);
        asked(() -> v.pass(6), () -> v.exchange(0, 2, 2, 2));
        checks.due("all that follows calls beyond the end", futureOf(beforeTheEndOfTime(5)), futureOf(v));
    }
}
