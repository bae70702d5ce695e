import java.util.NoSuchElementException;
import java.util.Random;

/** Drawn runs of calls, each answer held against the Model's. */
public final class ModelTest {
    private static final int RUNS = 400;
    private static final int CALLS = 150;

    private final Checks checks;
    private final Random random;
    private final StringBuilder trace = new StringBuilder();
    private ZoneLedger ledger = new ZoneLedger();
    private Model model = new Model();

    private ModelTest(Checks checks, long seed) {
        this.checks = checks;
        this.random = new Random(seed);
    }

    public static void main(String[] args) {
        Checks checks = new Checks();
        int runs = args.length > 0 ? Integer.parseInt(args[0]) : RUNS;
        int from = args.length > 1 ? Integer.parseInt(args[1]) : 0;
        for (int run = from; run < from + runs && Checks.wrongSoFar(checks) == 0; run++) {
            ModelTest test = new ModelTest(checks, run);
            test.run();
            if (Checks.wrongSoFar(checks) != 0) {
                System.out.println("run " + run + ": " + test.trace);
            }
        }
        if (Checks.wrongSoFar(checks) == 0) {
            texts(checks, new Random(7));
        }
        checks.finish();
    }

    /** Texts of the signs that texts have, most of them with a FAULT. */
    private static void texts(Checks checks, Random random) {
        for (int i = 0; i < 20000; i++) {
            ZoneLedger ledger = new ZoneLedger();
            Model model = new Model();
            boolean drive = random.nextBoolean();
            String text = drawnSigns(random, drive);
            Checks.feed(ledger, text);
            model.tape.append(text);
            checks.due("fault(0) of '" + text + "'", ledger.fault(0), model.fault(0));
            checks.due("fault(1) of '" + text + "'", ledger.fault(1), model.fault(1));
        }
    }

    private static String drawnSigns(Random random, boolean drive) {
        StringBuilder text = new StringBuilder(drive ? drawnDrive(random) : drawnScript(random));
        for (int edits = random.nextInt(3); edits > 0; edits--) {
            String signs = "szcoamrpwkv;=dxlfy 0123456789 " + (char) (1 + random.nextInt(255));
            char sign = signs.charAt(random.nextInt(signs.length()));
            int at = random.nextInt(text.length() + 1);
            if (random.nextInt(3) == 0 && at < text.length()) {
                text.deleteCharAt(at);
            } else {
                text.insert(at, sign);
            }
        }
        text.setLength(Math.min(text.length(), 240));
        return text.toString();
    }

    static String drawnDrive(Random random) {
        StringBuilder text = new StringBuilder();
        int writes = random.nextInt(4) == 0 ? 24 : random.nextInt(6);
        int rulesAt = random.nextInt(8) == 0 ? -1 : random.nextInt(writes + 1);
        for (int i = 0; i <= writes; i++) {
            if (i == rulesAt) {
                text.append(text.length() == 0 ? "" : ";").append(drawnRules(random));
            }
            if (i < writes) {
                text.append(text.length() == 0 ? "" : ";").append("w");
                text.append(random.nextInt(5) == 0 ? "" : "k" + random.nextInt(random.nextBoolean() ? 32 : 6));
                text.append(random.nextInt(5) == 0 ? " " : "v" + random.nextInt(100));
            }
        }
        if (text.length() == 0) {
            text.append("s");
        }
        return text.length() > 240 ? "s" : text.toString();
    }

    private static String drawnRules(Random random) {
        int[] least = {3, 2, 1, 1, 1, 1, 0};
        int[] most = {8, 16, 8, 8, 3, 2, 3};
        StringBuilder text = new StringBuilder("s");
        for (int i = 0; i < 7; i++) {
            if (random.nextInt(4) != 0) {
                int span = most[i] - least[i] + 1;
                // Small ones are cleaned sooner.
                int n = least[i] + random.nextInt(random.nextBoolean() ? span : Math.min(span, 3));
                text.append("zcoamrp".charAt(i)).append(n);
            }
        }
        return text.toString();
    }

    static String drawnScript(Random random) {
        StringBuilder text = new StringBuilder();
        int steps = 1 + random.nextInt(16);
        for (int i = 0; i < steps; i++) {
            text.append(i == 0 ? "" : ";");
            switch (random.nextInt(10)) {
                case 0 -> text.append("d").append(random.nextInt(32));
                case 1 -> text.append("c");
                case 2 -> text.append("x");
                case 3 -> text.append("o").append(random.nextInt(10));
                case 4 -> text.append("l").append(random.nextInt(4));
                case 5 -> text.append("f").append(random.nextInt(4));
                case 6 -> text.append("r").append(random.nextInt(4));
                case 7 -> text.append("y").append(random.nextInt(5));
                default -> text.append("p").append(random.nextInt(32)).append("=").append(random.nextInt(1000));
            }
        }
        return text.toString();
    }

    private void due(String call, long got, long want) {
        trace.append(call).append(' ').append(got).append("; ");
        checks.due(call, got, want);
    }

    private void quietDue(String call, long got, long want) {
        if (got != want) {
            trace.append(call).append(' ').append(got).append("; ");
        }
        checks.due(call, got, want);
    }

    private void run() {
        if (random.nextInt(10) != 0) {
            tell(0, drawnDrive(random));
        }
        for (int i = 0; i < CALLS && Checks.wrongSoFar(checks) == 0; i++) {
            if (random.nextInt(60) == 0) {
                tell(0, random.nextInt(4) == 0 ? drawnSigns(random, true) : drawnDrive(random));
            } else if (random.nextInt(20) == 0) {
                tell(1, random.nextInt(4) == 0 ? drawnSigns(random, false) : drawnScript(random));
            } else {
                call(random.nextInt(30));
            }
            if (random.nextInt(4) == 0) {
                lookAtAll();
            }
            if (random.nextInt(4) == 0) {
                foresee();
            }
        }
    }

    private void tell(int sort, String text) {
        int n = random.nextInt(6) == 0 ? random.nextInt(10) - 2 : 0;
        due("end(" + n + ")", ledger.end(n) ? 1 : 0, model.end(n) ? 1 : 0);
        for (int at = 0; at < text.length(); at += 20) {
            int[] w = new int[5];
            for (int j = 0; j < 5; j++) {
                w[j] = Checks.word(text, at + 4 * j);
            }
            due("feed of '" + text.substring(at, Math.min(at + 20, text.length())) + "'",
                    ledger.feed(w[0], w[1], w[2], w[3], w[4]), model.feed(w[0], w[1], w[2], w[3], w[4]));
        }
        due("fault(0)", ledger.fault(0), model.fault(0));
        due("fault(1)", ledger.fault(1), model.fault(1));
        due("text(" + sort + ")", ledger.text(sort), model.text(sort));
    }

    /** Mostly in bounds, now and then not. */
    private int some(int below) {
        int sort = random.nextInt(25);
        return sort == 0 ? -1 : sort == 1 ? below : random.nextInt(below);
    }

    private int zones() {
        return Math.max(1, model.count(0));
    }

    private void call(int sort) {
        int key = some(random.nextBoolean() ? 32 : 8);
        int value = some(1000);
        int zone = some(zones());
        switch (sort) {
            case 0 -> due("delete(" + key + ")", ledger.delete(key), model.byHand(1, key, 0));
            case 1, 2 -> due("clean()", ledger.clean(), model.byHand(2, 0, 0));
            case 3 -> due("crash()", ledger.crash(), model.byHand(3, 0, 0));
            case 4, 5 -> due("open(" + zone + ")", ledger.open(zone), model.byHand(4, zone, 0));
            case 6 -> due("close(" + zone + ")", ledger.close(zone), model.byHand(5, zone, 0));
            case 7 -> due("finish(" + zone + ")", ledger.finish(zone), model.byHand(6, zone, 0));
            case 8 -> due("reset(" + zone + ")", ledger.reset(zone), model.byHand(7, zone, 0));
            case 9 -> {
                int policy = some(4);
                due("policy(" + policy + ")", ledger.policy(policy), model.byHand(8, policy, 0));
            }
            case 10 -> {
                int n = random.nextInt(43);
                long seed = random.nextLong();
                due("years(" + n + "," + seed + ")", ledger.years(n, seed), model.years(n, seed));
            }
            case 11 -> {
                for (int times = random.nextInt(random.nextInt(3) == 0 ? 45 : 6); times > 0; times--) {
                    due("undo()", ledger.undo(), model.undo());
                }
            }
            case 12 -> {
                int script = some(4);
                due("perform(" + script + ")", ledger.perform(script), model.perform(script));
            }
            case 13 -> {
                if (random.nextInt(3) == 0) {
                    due("back()", ledger.back(), model.back());
                } else {
                    due("image()", ledger.image(), model.image());
                }
            }
            default -> {
                for (int times = random.nextInt(4); times >= 0; times--) {
                    int k = some(random.nextBoolean() ? 32 : 8);
                    due("put(" + k + "," + value + ")", ledger.put(k, value), model.byHand(0, k, value));
                }
            }
        }
    }

    private static int told(ZoneLedger ledger, int zone, int what) {
        try {
            return ledger.zone(zone, what);
        } catch (NoSuchElementException e) {
            return Integer.MIN_VALUE;
        }
    }

    private void lookAtAll() {
        for (int what = -1; what < 9; what++) {
            quietDue("rule(" + what + ")", ledger.rule(what), model.rule(what));
            quietDue("stream(" + what + ")", ledger.stream(what), model.stream(what));
            quietDue("status(" + what + ")", ledger.status(what), model.status(what));
            quietDue("count(" + what + ")", ledger.count(what), model.count(what));
            for (int zone = -1; zone < 9; zone++) {
                quietDue("zone(" + zone + "," + what + ")", told(ledger, zone, what), model.zone(zone, what));
            }
        }
        for (int zone = -1; zone < 9; zone++) {
            for (int i = -1; i < 17; i++) {
                for (int what = -1; what < 5; what++) {
                    quietDue("block(" + zone + "," + i + "," + what + ")", ledger.block(zone, i, what),
                            model.block(zone, i, what));
                }
            }
            for (int policy = -1; policy < 5; policy++) {
                quietDue("score(" + zone + "," + policy + ")", ledger.score(zone, policy), model.score(zone, policy));
                quietDue("order(" + policy + "," + zone + ")", ledger.order(policy, zone), model.order(policy, zone));
            }
            int c = some(1000);
            quietDue("shares(" + zone + "," + c + ")", ledger.shares(zone, c), model.shares(zone, c));
        }
        for (int key = -1; key < 33; key++) {
            quietDue("get(" + key + ")", ledger.get(key), model.get(key));
            quietDue("next(" + key + ")", ledger.next(key), model.next(key));
            for (int what = -1; what < 5; what++) {
                quietDue("key(" + key + "," + what + ")", ledger.key(key, what), model.key(key, what));
                quietDue("past(" + key + "," + what + ")", ledger.past(key, what), model.past(key, what));
            }
            int b = some(32);
            for (int what = -1; what < 3; what++) {
                quietDue("range(" + key + "," + b + "," + what + ")", ledger.range(key, b, what),
                        model.range(key, b, what));
            }
            quietDue("elder(" + key + ")", ledger.elder(key), model.elder(key));
        }
        for (int i = -1; i < 62; i++) {
            for (int what = -1; what < 4; what++) {
                quietDue("log(" + i + "," + what + ")", ledger.log(i, what), model.log(i, what));
            }
        }
        for (int what = -1; what < 18; what++) {
            quietDue("most(" + what + ")", ledger.most(what), model.most(what));
        }
        quietDue("gone()", ledger.gone(), model.gone());
        for (int script = -1; script < 5; script++) {
            for (int i = -1; i < 17; i++) {
                for (int what = -1; what < 4; what++) {
                    quietDue("step(" + script + "," + i + "," + what + ")", ledger.step(script, i, what),
                            model.step(script, i, what));
                }
            }
        }
    }

    private void foresee() {
        int key = some(32);
        int what = some(3);
        int n = random.nextInt(20) == 0 ? random.nextInt(3) * 100 + random.nextInt(2) : random.nextInt(40);
        long seed = random.nextLong();
        int script = some(4);
        for (int w = -1; w < 3; w++) {
            due("run(" + script + "," + w + ")", ledger.run(script, w), model.run(script, w));
        }
        for (int k = -1; k < 17; k++) {
            quietDue("torn(" + k + "," + what + ")", ledger.torn(k, what), model.torn(k, what));
        }
        due("cost(" + key + ")", ledger.cost(key), model.cost(key));
        int policy = some(4);
        due("growth(" + policy + "," + n + "," + seed + "," + what + ")", ledger.growth(policy, n, seed, what),
                model.growth(policy, n, seed, what));
        int o = some(9);
        int a = Math.max(some(9), random.nextInt(5) == 0 ? 0 : o);
        due("strain(" + o + "," + a + "," + n + "," + seed + "," + what + ")", ledger.strain(o, a, n, seed, what),
                model.strain(o, a, n, seed, what));
        int streams = some(4);
        due("fresh(" + streams + "," + n + "," + seed + "," + what + ")", ledger.fresh(streams, n, seed, what),
                model.fresh(streams, n, seed, what));
        if (random.nextInt(4) == 0) {
            due("best(" + n + "," + seed + ")", ledger.best(n, seed), model.best(n, seed));
            due("bestStreams(" + n + "," + seed + ")", ledger.bestStreams(n, seed), model.bestStreams(n, seed));
            due("far(" + key + ")", ledger.far(key), model.far(key));
        }
    }
}
