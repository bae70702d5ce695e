import java.math.BigInteger;
import java.util.function.Consumer;
import java.util.function.Supplier;

/** Promises 23 to 29, and what the Terms say of ACTS, STATUS, LOG, YEARS and SCRIPTS that are done. */
final class RecordBoundaries {
    private static final int NONE = Sentences.NONE;
    private static final int HIDDEN = Sentences.HIDDEN;
    private static final long[] SEEDS = {0, 1, -1, 7, -7, 1442695040888963407L, Long.MAX_VALUE, Long.MIN_VALUE,
        Long.MAX_VALUE - 1, Long.MIN_VALUE + 1, 1L << 33, 1L << 32, -(1L << 33), 123456789012345678L};

    private final Sentences doc;

    RecordBoundaries(Sentences doc) {
        this.doc = doc;
    }

    void run() {
        years();
        yearsRefused();
        draws();
        statuses();
        statusOfSeveral();
        refusedChangesNothing();
        actsUndone();
        fortyUndone();
        undos();
        logs();
        sixtyLogged();
        steps();
        runs();
        performs();
    }

    private static ZoneLedger none() {
        return new ZoneLedger();
    }

    private static Supplier<ZoneLedger> made(String text) {
        return () -> Checks.drive(text);
    }

    /** The draws of the document, in numbers that never go round by themselves. */
    static final class Draws {
        private static final BigInteger ROUND = BigInteger.ONE.shiftLeft(64);
        private static final BigInteger TIMES = new BigInteger("6364136223846793005");
        private static final BigInteger AND = new BigInteger("1442695040888963407");

        private BigInteger x;

        Draws(long seed) {
            x = BigInteger.valueOf(seed).mod(ROUND);
        }

        int of(int j) {
            x = x.multiply(TIMES).add(AND).mod(ROUND);
            return x.shiftRight(33).mod(BigInteger.valueOf(j)).intValue();
        }
    }

    // ---- 23

    /** YEARS by hand: how many could be. */
    private static int liveYears(ZoneLedger x, int n, long seed) {
        Draws draws = new Draws(seed);
        int done = 0;
        for (int i = 0; i < n; i++) {
            int answer;
            switch (draws.of(8)) {
                case 5 -> answer = x.delete(draws.of(32));
                case 6 -> answer = x.clean();
                case 7 -> answer = x.finish(draws.of(x.count(0)));
                default -> {
                    int key = draws.of(32);
                    answer = x.put(key, draws.of(1000));
                }
            }
            done += answer >= 0 ? 1 : 0;
        }
        return done;
    }

    private void years() {
        doc.says(23, "YEARS by a seed: n (1 .. 40) times: a draw of 8: 0 to 4: a draw of 32, of 1,000: PUT; 5: a draw of 32:"
                + " DELETE; 6: CLEAN; 7: a draw of ZONES: FINISH.");
        for (int n : new int[] {1, 2, 39, 40}) {
            for (int seed = 0; seed < 40; seed++) {
                ZoneLedger x = Checks.drive("sz" + (3 + seed % 6) + "c4m2o2a2p" + seed % 4);
                ZoneLedger y = Checks.drive("sz" + (3 + seed % 6) + "c4m2o2a2p" + seed % 4);
                x.years(n, seed);
                liveYears(y, n, seed);
                doc.same("years(" + n + ", " + seed + ")", Snapshot.ofDrive(x), Snapshot.ofDrive(y));
            }
        }

        doc.says(23, "Each is an ACT; what can't be is left (no STATUS).");
        boolean someLeft = false;
        for (int seed = 0; seed < 20; seed++) {
            ZoneLedger x = Checks.drive("sz4c3m2");
            ZoneLedger y = Checks.drive("sz4c3m2");
            x.years(40, seed);
            int done = liveYears(y, 40, seed);
            someLeft |= done < 40;
            doc.due("count(4)", x.count(4), done);
            doc.statusDue(x, 0, 0, 0, 0);
            doc.due("undo()", x.undo(), done - 1);
            y.undo();
            doc.same("what is UNDONE", Snapshot.of(x), Snapshot.of(y));
        }
        doc.holds("some were left", someLeft);

        doc.says(23, "YEARS: the NUMBER given latest.");
        ZoneLedger x = Checks.drive("sz8c16");
        int answer = x.years(40, 5);
        doc.due("years(40, 5)", answer, x.most(15));
        doc.holds("it is above 0", answer > 0);
        doc.due("years(1, ..) of a CLEAN of nothing", Checks.drive("s").years(1, seedOf(6)), 0);
        doc.due("years(1, ..) of a FINISH of nothing", Checks.drive("s").years(1, seedOf(7)), 0);
        doc.due("years(1, ..) of a DELETE of nothing", Checks.drive("s").years(1, seedOf(5)), 0);
        for (int sort = 0; sort < 5; sort++) {
            doc.due("years(1, ..) of a PUT", Checks.drive("s").years(1, seedOf(sort)), 1);
        }
    }

    private static long seedOf(int sort) {
        long seed = 0;
        while (new Draws(seed).of(8) != sort) {
            seed++;
        }
        return seed;
    }

    private void yearsRefused() {
        doc.says(23, "NONE: no DRIVE, out of bounds.");
        int[] bad = {0, 41, -1, Integer.MIN_VALUE, Integer.MAX_VALUE};
        for (int n : bad) {
            doc.refused("years(" + n + ", 1)", made("sz4c4;wk1;wk2"), x -> doc.due("years", x.years(n, 1), NONE), NONE);
        }
        doc.refused("years(1, 1) without a DRIVE", RecordBoundaries::none, x -> doc.due("years", x.years(1, 1), NONE), NONE);
        doc.holds("years(1, 1)", Checks.drive("s").years(1, 1) >= 0);
        doc.holds("years(40, 1)", Checks.drive("s").years(40, 1) >= 0);
    }

    private void draws() {
        doc.says(23, "x, at first the seed, becomes x times 6364136223846793005 and 1442695040888963407 (64 bits, going"
                + " round); a draw of j: (x shifted right by 33, without sign) modulo j.");
        for (long seed : SEEDS) {
            ZoneLedger x = Checks.drive("sz7c4m3o2a3p1");
            ZoneLedger y = Checks.drive("sz7c4m3o2a3p1");
            x.years(40, seed);
            liveYears(y, 40, seed);
            doc.same("years(40, " + seed + ")", Snapshot.ofDrive(x), Snapshot.ofDrive(y));
        }
        // The seed 0 becomes 1442695040888963407; by 2 to the power of 33 that is 167951807, cut.
        doc.due("the first draw of 1000 by 0", new Draws(0).of(1000), 167951807 % 1000);
    }

    // ---- 24

    private void statuses() {
        doc.says(24, "STATUS: how many ACTS were refused as there was no such one, no DRIVE (0), out of bounds (1), it is not"
                + " so that it could be (2), too much: no room, too many OPEN or ACTIVE, LIVE BLOCKS (3)");
        ZoneLedger x = none();
        x.put(0, 0);
        x.delete(0);
        x.clean();
        x.crash();
        x.open(0);
        x.close(0);
        x.finish(0);
        x.reset(0);
        x.policy(0);
        doc.statusDue(x, 9, 0, 0, 0);
        x = Checks.drive("sz3c2o1a1;wk1;wk2;wk3;wk4");
        x.put(0, 1000);
        x.policy(4);
        doc.statusDue(x, 0, 2, 0, 0);
        x.clean();
        x.open(0);
        x.close(0);
        x.finish(0);
        x.reset(2);
        x.policy(0);
        x.delete(9);
        doc.statusDue(x, 0, 2, 7, 0);
        x.put(9, 0);
        x.delete(1);
        x.reset(0);
        x.open(2);
        doc.statusDue(x, 0, 2, 7, 3);
        x.close(2);
        x = Checks.drive("sz3c2o1a2;wk1");
        x.open(1);
        doc.statusDue(x, 0, 0, 0, 1);
        x.close(0);
        x.open(1);
        x.close(1);
        doc.statusDue(x, 0, 0, 0, 1);

        doc.says(24, "STATUS. NONE: no such what.");
        doc.due("status(0) of a new one", none().status(0), 0);
        doc.due("status(3)", x.status(3), 1);
        doc.due("status(-1)", x.status(-1), NONE);
        doc.due("status(4)", x.status(4), NONE);
        for (int far : Sentences.FAR_OFF) {
            doc.due("status(" + far + ")", x.status(far), NONE);
        }
    }

    private void statusOfSeveral() {
        doc.says(24, "of several the first; not UNDONE.");
        ZoneLedger x = Checks.drive("sz3c2o1a1;wk1;wk2;wk3;wk4");
        // No such KEY and out of bounds; out of bounds and no room; no VALUE and no room; OPEN and too many OPEN.
        x.put(32, 1000);
        doc.statusDue(x, 1, 0, 0, 0);
        x.put(9, 1000);
        doc.statusDue(x, 1, 1, 0, 0);
        x.delete(9);
        doc.statusDue(x, 1, 1, 1, 0);
        x.open(2);
        x.open(2);
        doc.statusDue(x, 1, 1, 2, 0);
        ZoneLedger y = none();
        y.put(32, 1000);
        y.policy(9);
        y.open(9);
        doc.statusDue(y, 3, 0, 0, 0);
        doc.due("undo()", x.undo(), 0);
        doc.statusDue(x, 1, 1, 2, 0);
        x.image();
        x.put(-1, 0);
        x.back();
        doc.statusDue(x, 2, 1, 2, 0);
    }

    private void refusedChangesNothing() {
        doc.says(24, "What is refused answers as told and changes nothing but STATUS.");
        Supplier<ZoneLedger> busy = RecordBoundaries::busy;
        leavesAll("undo() of none", made("sz4c4;wk1"), ZoneLedger::undo);
        leavesAll("back() of none", made("sz4c4;wk1"), ZoneLedger::back);
        leavesAll("image() without a DRIVE", RecordBoundaries::none, ZoneLedger::image);
        leavesAll("perform(4)", busy, x -> x.perform(4));
        leavesAll("run(4, 0)", busy, x -> x.run(4, 0));
        leavesAll("years(0, 0)", busy, x -> x.years(0, 0));
        leavesAll("growth(4, 1, 1, 0)", busy, x -> x.growth(4, 1, 1, 0));
        leavesAll("strain(1, 1, 1, 1, 0)", busy, x -> x.strain(1, 1, 1, 1, 0));
        leavesAll("cost(32)", busy, x -> x.cost(32));
        leavesAll("far(32)", busy, x -> x.far(32));
        leavesAll("torn(99, 0)", busy, x -> x.torn(99, 0));
        leavesAll("text(0) of nothing", busy, x -> x.text(0));
        leavesAll("zone(8, 0)", busy, x -> Sentences.zone(x, 8, 0));
    }

    /** A drive in which much has been done, with an IMAGE, a SCRIPT and more ACTS than can be UNDONE. */
    static ZoneLedger busy() {
        ZoneLedger x = Checks.drive("sz6c4m3o2a4p1;wk1;wk2;wk3");
        Checks.script(x, "p1=5;c;p7=8;x;d1;o5;l5;y2");
        x.years(40, 3);
        x.image();
        x.years(20, 4);
        return x;
    }

    private void leavesAll(String how, Supplier<ZoneLedger> maker, Consumer<ZoneLedger> call) {
        doc.refused(how, maker, call, NONE);
    }

    // ---- 25

    private void actsUndone() {
        doc.says(25, "By hand: PUT, DELETE, CLEAN, CRASH, OPEN, CLOSE, FINISH, RESET, POLICY is set.");
        Supplier<ZoneLedger> ready = made("sz6c2m2o3a3;wk1;wk4;wk1;wk1;wk4;wk3");
        // Zone 0 has 1 and 4, of which nothing lives, zone 1 has 1 and 1; zones 2 and 3 are OPEN with one BLOCK each.
        undone("put", ready, x -> x.put(9, 9));
        undone("delete", ready, x -> x.delete(1));
        undone("clean", ready, ZoneLedger::clean);
        undone("crash", ready, ZoneLedger::crash);
        undone("open", ready, x -> x.open(5));
        undone("close", ready, x -> x.close(2));
        undone("finish", ready, x -> x.finish(2));
        undone("reset", ready, x -> x.reset(0));
        undone("policy", ready, x -> x.policy(3));
        undone("put that cleans", made("sz3c2;wk1;wk1;wk1;wk1"), x -> x.put(1, 9));
        undone("put that closes", made("sz6c4o1m2;wk1"), x -> x.put(1, 9));
        undone("put that finishes", made("sz6c4o1a1m2;wk1"), x -> x.put(1, 9));
        // The DELETION of 1 lives by what is cleaned away, and lives again when that is UNDONE.
        Supplier<ZoneLedger> deleted = () -> {
            ZoneLedger x = Checks.drive("sz4c2;wk1");
            x.delete(1);
            x.image();
            x.back();
            return x;
        };
        undone("clean of what a DELETION lives by", deleted, ZoneLedger::clean);
    }

    private void undone(String act, Supplier<ZoneLedger> maker, Consumer<ZoneLedger> call) {
        ZoneLedger x = maker.get();
        String before = Snapshot.of(x);
        call.accept(x);
        doc.due("count(4) behind " + act, x.count(4), 1);
        doc.holds(act + " is seen", !Snapshot.of(x).equals(before));
        doc.due("undo() of " + act, x.undo(), 0);
        doc.same(act + " is UNDONE", Snapshot.of(x), before);
        doc.same(act + " is UNDONE for what follows", Snapshot.ofWhatFollows(x), Snapshot.ofWhatFollows(maker.get()));
    }

    private void fortyUndone() {
        doc.says(25, "All these are ACTS: the latest 40 can be UNDONE one by one (the LOG, too).");
        for (int acts : new int[] {1, 39, 40, 41, 42, 81, 100}) {
            ZoneLedger x = Checks.drive("sz4c4;wk1v500");
            String[] before = new String[acts];
            for (int i = 0; i < acts; i++) {
                before[i] = Snapshot.ofDrive(x);
                x.put(1, i);
                x.put(32, 0);
            }
            int can = Math.min(acts, 40);
            doc.due("count(4) of " + acts, x.count(4), can);
            for (int i = 1; i <= can; i++) {
                doc.due("undo() of " + acts, x.undo(), can - i);
                doc.same("as it was " + i + " ahead", Snapshot.ofDrive(x), before[acts - i]);
            }
            doc.due("undo() beyond 40 of " + acts, x.undo(), NONE);
            x.put(2, 2);
            doc.due("count(4)", x.count(4), 1);
        }
        // Those of YEARS and DO count one by one.
        ZoneLedger x = Checks.drive("sz8c16");
        Checks.script(x, "p1=1;".repeat(15) + "p1=2");
        x.perform(0);
        x.perform(0);
        doc.due("count(4)", x.count(4), 32);
        x.perform(0);
        doc.due("count(4)", x.count(4), 40);
        x.undo();
        doc.due("get(1)", x.get(1), 1);
        x.years(40, 1);
        doc.holds("count(4) is 40 at most", x.count(4) <= 40);
    }

    private void undos() {
        doc.says(25, "The latest ACT is UNDONE: how many still can be.");
        ZoneLedger x = Checks.drive("wk1v1");
        x.put(1, 2);
        x.put(1, 3);
        doc.due("undo()", x.undo(), 1);
        doc.due("get(1)", x.get(1), 2);
        x.put(1, 4);
        doc.due("count(4)", x.count(4), 2);
        doc.due("undo()", x.undo(), 1);
        doc.due("get(1)", x.get(1), 2);
        doc.due("undo()", x.undo(), 0);
        doc.due("get(1)", x.get(1), 1);
        doc.says(25, "NONE: none.");
        doc.due("undo()", x.undo(), NONE);
        doc.due("get(1)", x.get(1), 1);
        doc.due("undo() without a DRIVE", none().undo(), NONE);
        x.put(1, 1000);
        doc.due("undo() of a refused one", x.undo(), NONE);
        x.put(1, 5);
        Checks.feed(x, "wk1v9");
        x.text(0);
        doc.due("undo() of another DRIVE's", x.undo(), NONE);
        doc.due("get(1)", x.get(1), 9);
        doc.refused("undo()", made("sz4c4;wk1"), y -> doc.due("undo", y.undo(), NONE), NONE);
    }

    // ---- 26

    private void logs() {
        doc.says(26, "The LOG: of each BLOCK APPENDED for a PUT or DELETE (0), MOVED (1), each ZONE RESET (2), FINISHED (3),"
                + " OPENED by hand (4), CLOSED (5; by a CRASH not), each CRASH (6) its sort, the ZONE (a CRASH: NONE), a"
                + " number (the PLACE; RESETS then; the POINTER; 0; the POINTER; how many KEYS have a VALUE)");
        ZoneLedger x = Checks.drive("sz5c3o3a3");
        lengthDue(x, 0);
        x.put(1, 1);
        x.put(2, 1);
        doc.logDue(x, 0, 0, 0, 1);
        x.delete(1);
        doc.logDue(x, 0, 0, 0, 2);
        lengthDue(x, 3);
        x.clean();
        doc.logDue(x, 0, 2, 0, 1);
        doc.logDue(x, 1, 1, 1, 17);
        doc.logDue(x, 2, 1, 1, 16);
        lengthDue(x, 6);
        x.open(4);
        doc.logDue(x, 0, 4, 4, 0);
        x.close(4);
        doc.logDue(x, 0, 5, 4, 0);
        x.close(1);
        doc.logDue(x, 0, 5, 1, 2);
        x.open(1);
        doc.logDue(x, 0, 4, 1, 0);
        lengthDue(x, 10);
        x.open(4);
        x.crash();
        doc.logDue(x, 0, 6, NONE, 1);
        doc.logDue(x, 1, 4, 4, 0);
        lengthDue(x, 12);
        x.finish(1);
        doc.logDue(x, 0, 3, 1, 2);
        x.put(2, 5);
        x.reset(1);
        doc.logDue(x, 0, 2, 1, 1);
        x.policy(2);
        doc.logDue(x, 0, 2, 1, 1);
        lengthDue(x, 15);
        // What is refused, or only looked at, or FULL by itself, is not told.
        x.put(32, 0);
        x.growth(0, 200, 1, 0);
        x.image();
        lengthDue(x, 15);

        doc.says(26, "LOG, the latest (i 0), the one ahead of it (1) ..: 0 sort, 1 ZONE, 2 number.");
        doc.logDue(x, 14, 0, 0, 0);
        doc.logDue(x, 13, 0, 0, 1);
        doc.logDue(x, 3, 6, NONE, 1);

        doc.says(26, "HIDDEN: no such ones.");
        doc.due("log(15, 0)", x.log(15, 0), HIDDEN);
        doc.due("log(-1, 0)", x.log(-1, 0), HIDDEN);
        doc.due("log(0, -1)", x.log(0, -1), HIDDEN);
        doc.due("log(0, 3)", x.log(0, 3), HIDDEN);
        for (int far : Sentences.FAR_OFF) {
            doc.due("log(" + far + ", 0)", x.log(far, 0), HIDDEN);
            doc.due("log(0, " + far + ")", x.log(0, far), HIDDEN);
        }
        doc.due("log(0, 0) of nothing", Checks.drive("s").log(0, 0), HIDDEN);
        doc.due("log(0, 0) without a DRIVE", none().log(0, 0), HIDDEN);
    }

    private void lengthDue(ZoneLedger x, int want) {
        doc.due("count(3)", x.count(3), want);
    }

    private void sixtyLogged() {
        doc.says(26, ": the latest 60.");
        ZoneLedger x = Checks.drive("sz8c16");
        for (int i = 0; i < 112; i++) {
            x.put(i % 32, 0);
            int length = Math.min(i + 1, 60);
            lengthDue(x, length);
            doc.logDue(x, 0, 0, i / 16, i);
            doc.logDue(x, length - 1, 0, (i + 1 - length) / 16, i + 1 - length);
            doc.due("log(" + length + ", 2)", x.log(length, 2), HIDDEN);
        }
        // UNDONE, it tells again what it had lost.
        doc.due("undo()", x.undo(), 39);
        lengthDue(x, 60);
        doc.logDue(x, 59, 0, 3, 51);
    }

    // ---- 27 to 29

    private void steps() {
        doc.says(27, "A STEP of a SCRIPT: 0 what (0 PUT, 1 DELETE, 2 CLEAN, 3 CRASH, 4 OPEN, 5 CLOSE, 6 FINISH, 7 RESET, 8"
                + " POLICY), 1 its first number (NONE), 2 its VALUE (NONE).");
        ZoneLedger x = none();
        Checks.script(x, "p0=0;p31=999;d0;d31;c;x;o0;l9;f8;r1;y4");
        Checks.script(x, "c");
        int[][] want = {{0, 0, 0}, {0, 31, 999}, {1, 0, NONE}, {1, 31, NONE}, {2, NONE, NONE}, {3, NONE, NONE},
            {4, 0, NONE}, {5, 9, NONE}, {6, 8, NONE}, {7, 1, NONE}, {8, 4, NONE}};
        for (int i = 0; i < want.length; i++) {
            for (int what = 0; what < 3; what++) {
                doc.due("step(0, " + i + ", " + what + ")", x.step(0, i, what), want[i][what]);
            }
        }
        doc.due("step(1, 0, 0)", x.step(1, 0, 0), 2);

        doc.says(27, "HIDDEN: no such ones.");
        doc.due("step(0, 11, 0)", x.step(0, 11, 0), HIDDEN);
        doc.due("step(1, 1, 0), longer was the one ahead", x.step(1, 1, 0), HIDDEN);
        doc.due("step(0, -1, 0)", x.step(0, -1, 0), HIDDEN);
        doc.due("step(0, 0, -1)", x.step(0, 0, -1), HIDDEN);
        doc.due("step(0, 0, 3)", x.step(0, 0, 3), HIDDEN);
        doc.due("step(2, 0, 0)", x.step(2, 0, 0), HIDDEN);
        doc.due("step(-1, 0, 0)", x.step(-1, 0, 0), HIDDEN);
        for (int far : Sentences.FAR_OFF) {
            doc.due("step(" + far + ", 0, 0)", x.step(far, 0, 0), HIDDEN);
            doc.due("step(0, " + far + ", 0)", x.step(0, far, 0), HIDDEN);
            doc.due("step(0, 0, " + far + ")", x.step(0, 0, far), HIDDEN);
        }
        doc.due("step(0, 0, 0) of none", none().step(0, 0, 0), HIDDEN);
        for (int i = 2; i < 4; i++) {
            Checks.script(x, "d" + i);
            doc.due("step(" + i + ", 0, 1)", x.step(i, 0, 1), i);
        }
        doc.due("step(4, 0, 0)", x.step(4, 0, 0), HIDDEN);
    }

    /** Zone 0 of two has 1 and 2; there are scripts that can be, that break off, that can't begin. */
    private static ZoneLedger scripted() {
        ZoneLedger x = Checks.drive("sz4c2;wk1;wk2");
        Checks.script(x, "p1=1;p2=2;r0;o3;l3;y1;x;d1");
        Checks.script(x, "p1=1;c;d1;x;o9;p1=1");
        Checks.script(x, "y0;p1=1");
        Checks.script(x, "p1=7;".repeat(15) + "p1=8");
        return x;
    }

    private void runs() {
        doc.says(28, "RUN of a SCRIPT: behind how many STEPS the first is that can't be; how many BLOCKS are APPENDED by"
                + " those ahead.");
        ZoneLedger x = scripted();
        // By the second, 2 is moved ahead of the DELETION; o9 is the fifth.
        doc.due("run(1, 0)", x.run(1, 0), 4);
        doc.due("run(1, 1)", x.run(1, 1), 3);
        doc.due("run(2, 0), the first", x.run(2, 0), 0);
        doc.due("run(2, 1), the first", x.run(2, 1), 0);
        ZoneLedger y;
        String[] cannot = {"p1=1;d2", "p1=1;c", "p1=1;o0", "p1=1;l1", "p1=1;f1", "p1=1;r1", "p1=1;r0", "p1=1;y0",
            "p1=1;y4", "p1=1;y9", "p1=1;o4", "p1=1;l4", "p1=1;f4", "p1=1;r4", "p1=1;o9", "p1=1;l9", "p1=1;f9", "p1=1;r9"};
        for (String text : cannot) {
            y = Checks.drive("s");
            Checks.script(y, text);
            doc.due("run(0, 0) of " + text, y.run(0, 0), 1);
            doc.due("run(0, 1) of " + text, y.run(0, 1), 1);
            doc.due("perform(0) of " + text, y.perform(0), 1);
        }
        y = Checks.drive("sz3c2");
        Checks.script(y, "p1=0;p2=0;p3=0;p4=0;p5=0;p1=0");
        doc.due("run(0, 0), no room", y.run(0, 0), 4);
        doc.due("run(0, 1), no room", y.run(0, 1), 4);

        doc.says(28, "RUN: behind how many (0; NONE: all can be), BLOCKS APPENDED (1).");
        doc.due("run(0, 0), all can be", x.run(0, 0), NONE);
        doc.due("run(0, 1)", x.run(0, 1), 3);
        doc.due("run(3, 0), sixteen", x.run(3, 0), NONE);
        doc.same("apart", Snapshot.of(x), Snapshot.of(scripted()));

        doc.says(28, "HIDDEN: no such SCRIPT, no DRIVE, no such what.");
        doc.due("run(4, 0)", x.run(4, 0), HIDDEN);
        doc.due("run(-1, 0)", x.run(-1, 0), HIDDEN);
        doc.due("run(0, -1)", x.run(0, -1), HIDDEN);
        doc.due("run(0, 2)", x.run(0, 2), HIDDEN);
        for (int far : Sentences.FAR_OFF) {
            doc.due("run(" + far + ", 0)", x.run(far, 0), HIDDEN);
            doc.due("run(0, " + far + ")", x.run(0, far), HIDDEN);
        }
        ZoneLedger noDrive = none();
        Checks.script(noDrive, "c");
        doc.due("run(0, 0) without a DRIVE", noDrive.run(0, 0), HIDDEN);
        doc.due("run(0, 1) without a DRIVE", noDrive.run(0, 1), HIDDEN);
        doc.due("run(0, 0) without a SCRIPT", Checks.drive("s").run(0, 0), HIDDEN);
    }

    private void performs() {
        doc.says(29, "DO: its STEPS as ACTS, up to there (no STATUS).");
        ZoneLedger x = scripted();
        x.perform(1);
        doc.due("count(4)", x.count(4), 4);
        doc.statusDue(x, 0, 0, 0, 0);
        ZoneLedger y = scripted();
        y.put(1, 1);
        y.clean();
        y.delete(1);
        y.crash();
        doc.same("as by hand", Snapshot.of(x), Snapshot.of(y));
        doc.same("UNDONE as by hand", Snapshot.ofWhatFollows(x), Snapshot.ofWhatFollows(y));

        doc.says(29, "DO: how many STEPS were done.");
        doc.due("perform(0)", scripted().perform(0), 8);
        doc.due("perform(1)", scripted().perform(1), 4);
        doc.due("perform(2)", scripted().perform(2), 0);
        doc.due("perform(3)", scripted().perform(3), 16);

        doc.says(29, "NONE: no such SCRIPT, no DRIVE.");
        int[] bad = {-1, 4, Integer.MIN_VALUE, Integer.MAX_VALUE};
        for (int script : bad) {
            doc.refused("perform(" + script + ")", RecordBoundaries::scripted,
                    z -> doc.due("perform", z.perform(script), NONE), NONE);
        }
        doc.refused("perform(0) of none", made("sz4c4;wk1"), z -> doc.due("perform", z.perform(0), NONE), NONE);
        ZoneLedger noDrive = none();
        Checks.script(noDrive, "c");
        doc.due("perform(0) without a DRIVE", noDrive.perform(0), NONE);
        doc.statusDue(noDrive, 0, 0, 0, 0);
    }
}
