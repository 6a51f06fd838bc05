import java.util.Random;

/** Long runs of calls, made by a fixed seed each, on the class and on the model: both answer the same. */
public final class ModelTest {
    private static final int RUNS = 1500;
    private static final int CALLS = 512;
    private static final int[] EXTREMES = {Integer.MIN_VALUE, Integer.MIN_VALUE + 1, -1000000001, -1000001, -501,
        -301, -1, 0, 1, 8, 9, 15, 21, 301, 501, 100001, 500001, 1000001, 1000000001, Integer.MAX_VALUE - 1,
        Integer.MAX_VALUE};

    private final Clockhouse made = new Clockhouse();
    private final Model model = new Model();
    private final Random random;
    private final Checks checks;
    private final int manner;
    private int waiting;

    private ModelTest(int seed, Checks checks) {
        this.random = new Random(seed);
        this.checks = checks;
        this.manner = seed % 4;
        checks.promise("run of seed " + seed);
    }

    public static void main(String[] args) {
        Checks checks = new Checks();
        for (int seed = 0; seed < RUNS; seed++) {
            ModelTest run = new ModelTest(seed, checks);
            for (int call = 0; call < CALLS; call++) {
                run.oneCall();
            }
        }
        checks.end("ModelTest");
    }

    private int between(int least, int most) {
        return least + random.nextInt(most - least + 1);
    }

    /** Mostly ordinary, at times an end of the range, and now and then something wild. */
    private int number(int least, int most) {
        int kind = random.nextInt(200);
        if (kind == 0) {
            return EXTREMES[random.nextInt(EXTREMES.length)];
        }
        if (kind < 4) {
            return least - 1 + random.nextInt(2);
        }
        if (kind < 7) {
            return most + random.nextInt(2);
        }
        return between(least, most);
    }

    private int smallOrAny(int small, int least, int most) {
        return random.nextInt(8) == 0 ? number(least, most) : between(Math.max(least, -small), Math.min(most, small));
    }

    private int server() {
        int kind = random.nextInt(60);
        if (kind == 0) {
            return EXTREMES[random.nextInt(EXTREMES.length)];
        }
        return kind < 3 ? between(-1, 8) : random.nextInt(Math.max(1, model.servers()));
    }

    private int spread() {
        return new int[] {30, 2000, 50000, 1000000}[manner];
    }

    private void answer(String call, Checks.Call a, Checks.Call b) {
        checks.due(call, Checks.outcome(b), Checks.outcome(a));
    }

    private void oneCall() {
        int kind = random.nextInt(100);
        if (kind < 30 && model.servers() > 0) {
            exchange();
        } else if (kind < 36 || model.servers() < 3) {
            addServer();
        } else if (kind < 42) {
            pass();
        } else if (kind < 47) {
            setError();
        } else if (kind < 55) {
            synchronize();
        } else if (kind < 58) {
            seldom();
        } else if (kind < 75) {
            askServer();
        } else {
            ask();
        }
    }

    private void exchange() {
        int s = server();
        int reach = random.nextInt(10) == 0 ? 500000 : spread();
        int out = smallOrAny(reach, 0, 500000);
        int processing = smallOrAny(reach, 0, 100000);
        int back = random.nextBoolean() ? out : smallOrAny(reach, 0, 500000);
        answer("exchange(" + s + ", " + out + ", " + processing + ", " + back + ")",
                () -> made.exchange(s, out, processing, back), () -> model.exchange(s, out, processing, back));
    }

    private void addServer() {
        int stratum = number(1, 14);
        int error = smallOrAny(spread(), -1000000, 1000000);
        int rootDelay = smallOrAny(spread(), 0, 1000000);
        int rootDispersion = smallOrAny(spread(), 0, 1000000);
        answer("addServer(" + stratum + ", " + error + ", " + rootDelay + ", " + rootDispersion + ")",
                () -> made.addServer(stratum, error, rootDelay, rootDispersion),
                () -> model.addServer(stratum, error, rootDelay, rootDispersion));
    }

    private void pass() {
        int micros = manner == 3 ? number(900000000, 1000000000) : smallOrAny(20000000, 1, 1000000000);
        int positive = Math.max(random.nextInt(50) == 0 ? micros : 1, micros);
        answer("pass(" + positive + ")", () -> made.pass(positive), () -> model.pass(positive));
    }

    private void setError() {
        int s = server();
        int error = smallOrAny(spread(), -1000000, 1000000);
        answer("setError(" + s + ", " + error + ")", () -> made.setError(s, error), () -> model.setError(s, error));
    }

    /** Waits a while, so that the servers gather samples. */
    private void synchronize() {
        waiting++;
        if (waiting % 3 == 0) {
            answer("synchronize()", made::synchronize, model::synchronize);
        }
    }

    private void seldom() {
        int kind = random.nextInt(10);
        if (kind < 6) {
            int drift = number(-300, 300);
            answer("setDrift(" + drift + ")", () -> made.setDrift(drift), () -> model.setDrift(drift));
        } else if (kind < 9) {
            int day = number(0, 5);
            boolean isInsertion = random.nextBoolean();
            answer("announceLeap(" + day + ", " + isInsertion + ")",
                    () -> made.announceLeap(day, isInsertion), () -> model.announceLeap(day, isInsertion));
        } else {
            int reading = smallOrAny(10000000, -1000000000, 1000000000);
            answer("restart(" + reading + ")", () -> nothing(() -> made.restart(reading)),
                    () -> nothing(() -> model.restart(reading)));
        }
    }

    private static long nothing(Checks.Act act) {
        act.run();
        return 0;
    }

    private void askServer() {
        int s = server();
        switch (random.nextInt(5)) {
            case 0 -> answer("samples(" + s + ")", () -> made.samples(s), () -> model.samples(s));
            case 1 -> answer("offset(" + s + ")", () -> made.offset(s), () -> model.offset(s));
            case 2 -> answer("delay(" + s + ")", () -> made.delay(s), () -> model.delay(s));
            case 3 -> answer("jitter(" + s + ")", () -> made.jitter(s), () -> model.jitter(s));
            default -> answer("distance(" + s + ")", () -> made.distance(s), () -> model.distance(s));
        }
    }

    private void ask() {
        switch (random.nextInt(18)) {
            case 0 -> answer("trueTime()", made::trueTime, model::trueTime);
            case 1 -> answer("clock()", made::clock, model::clock);
            case 2 -> answer("error()", made::error, model::error);
            case 3 -> answer("pendingSlew()", made::pendingSlew, model::pendingSlew);
            case 4 -> answer("correction()", made::correction, model::correction);
            case 5 -> answer("civil()", made::civil, model::civil);
            case 6 -> answer("servers()", made::servers, model::servers);
            case 7 -> answer("agreement()", made::agreement, model::agreement);
            case 8 -> answer("hasMajority()", () -> made.hasMajority() ? 1 : 0, () -> model.hasMajority() ? 1 : 0);
            case 9 -> answer("agreeing()", made::agreeing, model::agreeing);
            case 10 -> answer("low()", made::low, model::low);
            case 11 -> answer("high()", made::high, model::high);
            case 12 -> answer("survivors()", made::survivors, model::survivors);
            case 13 -> answer("combinedOffset()", made::combinedOffset, model::combinedOffset);
            case 14 -> answer("peer()", made::peer, model::peer);
            case 15 -> answer("stratum()", made::stratum, model::stratum);
            case 16 -> answer("steps()", made::steps, model::steps);
            default -> answer("synchronizations()", made::synchronizations, model::synchronizations);
        }
    }
}
