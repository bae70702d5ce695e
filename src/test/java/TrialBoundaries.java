/** Promises 30 to 43, and what the Terms say of what would be, apart. */
final class TrialBoundaries {
    private static final int NONE = Sentences.NONE;
    private static final int[] BAD_TIMES = {0, 201, -1, Integer.MIN_VALUE, Integer.MAX_VALUE};

    private final Sentences doc;

    TrialBoundaries(Sentences doc) {
        this.doc = doc;
    }

    void run() {
        apart();
        torn();
        tornRefused();
        orders();
        scores();
        costs();
        growths();
        growthOfNone();
        growthRefused();
        bests();
        strains();
        strainRefused();
        freshes();
        bestStreams();
        pasts();
        elders();
        gone();
        fars();
        shares();
    }

    private static ZoneLedger none() {
        return new ZoneLedger();
    }

    private static ZoneLedger allLive() {
        return Checks.drive("sz3c2;wk1;wk2;wk3;wk4");
    }

    /** Zone 0 of four has 1, of which nothing lives there, 2, 1 and 3. */
    private static ZoneLedger threeToMove() {
        return Checks.drive("sz4c4;wk1v1;wk2v2;wk1v3;wk3v4");
    }

    private void apart() {
        doc.says(30, "(Apart, from as it is now.)");
        ZoneLedger x = RecordBoundaries.busy();
        String before = Snapshot.of(x);
        for (int what = 0; what < 3; what++) {
            x.torn(0, what);
            x.growth(2, 200, 5, what);
            x.fresh(2, 200, 5, what);
        }
        x.order(1, 0);
        x.score(1, 1);
        x.cost(9);
        x.best(200, 5);
        x.bestStreams(200, 5);
        x.strain(8, 8, 200, 5, 0);
        x.strain(8, 8, 200, 5, 1);
        x.far(9);
        x.past(1, 0);
        x.elder(0);
        x.gone();
        doc.same("all is as it was", Snapshot.of(x), before);
        doc.statusDue(x, 0, 0, 0, 0);
        doc.same("what follows, too", Snapshot.ofWhatFollows(x), Snapshot.ofWhatFollows(RecordBoundaries.busy()));
    }

    // ---- 30

    private void torn() {
        doc.says(30, "TORN by k: a CLEANING is begun; behind k MOVES of it (ahead of its RESET, if these are all) it CRASHES:"
                + " how many KEYS have another VALUE then, or none; how many BLOCKS are there twice (KEY and NUMBER); how"
                + " many ZONES are EMPTY.");
        ZoneLedger x = threeToMove();
        for (int k = 0; k <= 3; k++) {
            tornDue(x, k, k, k == 0 ? 3 : 2);
        }
        // Of what stands at PLACE 0, too.
        x = Checks.drive("sz4c4;wk1;wk2;wk3;wk2");
        tornDue(x, 1, 1, 2);
        tornDue(x, 3, 3, 2);
        x = threeToMove();
        // Nothing is moved, and it is not RESET.
        tornDue(Checks.drive("sz4c2;wk1;wk1;wk1"), 0, 0, 2);
        // One OPEN by hand is EMPTY behind the CRASH.
        x.open(3);
        tornDue(x, 0, 0, 3);
        // The second goes to the next ZONE: one fewer is EMPTY from there on.
        x = Checks.drive("sz5c3;wk1;wk2;wk1;wk8;wk9");
        for (int k = 0; k <= 2; k++) {
            tornDue(x, k, k, k < 2 ? 3 : 2);
        }
        // Below it, into zone 0: the copy is the LATEST then; a DELETION is moved, too.
        x = Checks.drive("sz4c3m2;wk1v1;wk2v2;wk1v3;wk1v4");
        x.delete(2);
        for (int k = 0; k <= 1; k++) {
            tornDue(x, k, k, 2);
        }

        doc.says(30, "TORN: KEYS with another VALUE (0), BLOCKS that are there twice (1), EMPTY ZONES (2).");
        x = threeToMove();
        doc.due("torn(2, 0)", x.torn(2, 0), 0);
        doc.due("torn(2, 1)", x.torn(2, 1), 2);
        doc.due("torn(2, 2)", x.torn(2, 2), 2);
    }

    private void tornDue(ZoneLedger x, int k, int twice, int empty) {
        doc.due("torn(" + k + ", 0)", x.torn(k, 0), 0);
        doc.due("torn(" + k + ", 1)", x.torn(k, 1), twice);
        doc.due("torn(" + k + ", 2)", x.torn(k, 2), empty);
    }

    private void tornRefused() {
        doc.says(30, "NONE: no DRIVE, it can't be CLEANED, k below 0 or above how many would be MOVED, no such what.");
        ZoneLedger x = threeToMove();
        doc.due("torn(-1, 0)", x.torn(-1, 0), NONE);
        doc.due("torn(4, 0)", x.torn(4, 0), NONE);
        doc.due("torn(4, 1)", x.torn(4, 1), NONE);
        doc.due("torn(0, -1)", x.torn(0, -1), NONE);
        doc.due("torn(0, 3)", x.torn(0, 3), NONE);
        for (int far : Sentences.FAR_OFF) {
            doc.due("torn(" + far + ", 0)", x.torn(far, 0), NONE);
            doc.due("torn(0, " + far + ")", x.torn(0, far), NONE);
        }
        doc.due("torn(1, 0), nothing to move", Checks.drive("sz4c2;wk1;wk1;wk1").torn(1, 0), NONE);
        doc.due("torn(0, 0), nothing FULL", Checks.drive("s").torn(0, 0), NONE);
        doc.due("torn(0, 0), all lives", allLive().torn(0, 0), NONE);
        doc.due("torn(0, 0) without a DRIVE", none().torn(0, 0), NONE);
        x = Checks.drive("sz3c4a8o8;wk1;wk2;wk3;wk1;wk9;wk10");
        doc.due("torn(0, 0), room", x.torn(0, 0), 0);
        x.open(2);
        doc.due("torn(0, 0), no room", x.torn(0, 0), NONE);
    }

    // ---- 31 to 33

    private void orders() {
        doc.says(31, "ORDER by a POLICY: the ZONES as they would be taken to be CLEANED, SCORES as now (those that can be"
                + " taken, whether there is room or not).");
        // Zone 0 has DEAD 1 and AGE 9, zone 1 DEAD 2 and AGE 5, zone 2 none DEAD, zone 3 is not FULL.
        ZoneLedger x = Checks.drive("sz5c4;wk1;wk2;wk3;wk4;wk5;wk5;wk1;wk1;wk6;wk7;wk8;wk9;wk10");
        int[][] want = {{1, 0}, {1, 0}, {0, 1}, {1, 0}};
        for (int policy = 0; policy < 4; policy++) {
            ordersDue(x, policy, want[policy]);
        }
        // Like SCORES: the lowest first; there is no room, as zones 2 and 3 are OPEN by hand.
        x = Checks.drive("sz4c4o3;wk1;wk2;wk3;wk1;wk4;wk5;wk6;wk4");
        x.open(2);
        x.open(3);
        ordersDue(x, 0, 0, 1);
        ordersDue(x, 3, 0, 1);
        ordersDue(x, 2, 0, 1);
        doc.due("clean()", x.clean(), NONE);
        // RESETS tell by POLICY 3 more than DEAD does.
        x = Checks.drive("sz5c4");
        x.open(0);
        x.reset(0);
        x.open(0);
        x.finish(0);
        for (int key = 1; key < 5; key++) {
            x.put(key, 0);
        }
        x.put(1, 0);
        ordersDue(x, 3, 1, 0);
        ordersDue(x, 0, 0, 1);

        // Eight ZONES, zone 7 the first, as 9 lives in none of it: it was FINISHED with POINTER 0.
        x = Checks.drive("sz8c2;wk1;wk2;wk1");
        x.open(7);
        x.finish(7);
        ordersDue(x, 0, 7, 0);

        doc.says(31, "ORDER: the i-th ZONE.");
        ordersDue(Checks.drive("sz4c2;wk1;wk1"), 0, 0);
        ordersDue(Checks.drive("s"), 0);

        doc.says(31, "NONE: no such ones.");
        doc.due("order(0, -1)", x.order(0, -1), NONE);
        doc.due("order(0, 2)", x.order(0, 2), NONE);
        doc.due("order(-1, 0)", x.order(-1, 0), NONE);
        doc.due("order(4, 0)", x.order(4, 0), NONE);
        for (int far : Sentences.FAR_OFF) {
            doc.due("order(" + far + ", 0)", x.order(far, 0), NONE);
            doc.due("order(0, " + far + ")", x.order(0, far), NONE);
        }
        doc.due("order(0, 0), all lives", allLive().order(0, 0), NONE);
        doc.due("order(0, 0) without a DRIVE", none().order(0, 0), NONE);
    }

    private void ordersDue(ZoneLedger x, int policy, int... want) {
        for (int i = 0; i < want.length; i++) {
            doc.due("order(" + policy + ", " + i + ")", x.order(policy, i), want[i]);
        }
        doc.due("order(" + policy + ", " + want.length + ")", x.order(policy, want.length), NONE);
    }

    private void scores() {
        doc.says(32, "SCORE by POLICY 0: DEAD; 1: DEAD times AGE times 1,000, by CAPACITY and LIVE added up, cut; 2: AGE; 3:"
                + " 1,000 less RESETS, times 20, and DEAD.");
        ZoneLedger x = Checks.drive("sz5c4;wk1;wk2;wk3;wk4;wk5;wk5;wk1");
        scoresDue(x, 0, 1, 3000 / 7, 3, 20001);
        scoresDue(x, 1, 2, 0, 0, 20002);
        scoresDue(x, 4, 4, 0, 0, 20004);
        x.clean();
        // 2, 3 and 4 went to zones 1 and 2; zone 1 has 5 5 1 2, the greatest NUMBER in zone 2 is 4.
        scoresDue(x, 0, 4, 0, 0, 19984);
        scoresDue(x, 1, 1, 0, 0, 20001);
        scoresDue(x, 2, 2, 2 * 3 * 1000 / 6, 3, 20002);
        // FULL of what lives: DEAD 0.
        x = Checks.drive("sz5c2;wk1;wk2;wk3");
        scoresDue(x, 0, 0, 0, 1, 20000);

        doc.says(32, "SCORE of a ZONE by a POLICY.");
        scoresDue(x, 1, 1, 0, 0, 20001);

        doc.says(32, "NONE: no such ones.");
        doc.due("score(-1, 0)", x.score(-1, 0), NONE);
        doc.due("score(5, 0)", x.score(5, 0), NONE);
        doc.due("score(0, -1)", x.score(0, -1), NONE);
        doc.due("score(0, 4)", x.score(0, 4), NONE);
        for (int far : Sentences.FAR_OFF) {
            doc.due("score(" + far + ", 0)", x.score(far, 0), NONE);
            doc.due("score(0, " + far + ")", x.score(0, far), NONE);
        }
        doc.due("score(0, 0) without a DRIVE", none().score(0, 0), NONE);
    }

    private void scoresDue(ZoneLedger x, int zone, int... want) {
        for (int policy = 0; policy < 4; policy++) {
            doc.due("score(" + zone + ", " + policy + ")", x.score(zone, policy), want[policy]);
        }
    }

    private void costs() {
        doc.says(33, "COST of a PUT of a KEY: how many BLOCKS would be APPENDED by it, its own, too.");
        doc.due("cost(0) of nothing", Checks.drive("s").cost(0), 1);
        doc.due("cost(31) of nothing", Checks.drive("s").cost(31), 1);
        doc.due("cost(1), a cleaning of none", Checks.drive("sz3c2;wk1;wk1;wk1;wk1").cost(1), 1);
        doc.due("cost(4), one is moved", Checks.drive("sz3c2;wk1;wk2;wk1;wk3").cost(4), 2);
        doc.due("cost(1), two cleanings", Checks.drive("sz4c2r2m2;wk1;wk2;wk1;wk1").cost(1), 3);
        doc.says(33, "COST. NONE: no such KEY, it can't be PUT.");
        doc.due("cost(1), all lives", allLive().cost(1), NONE);
        doc.due("cost(9), all lives", allLive().cost(9), NONE);
        doc.due("cost(-1)", Checks.drive("s").cost(-1), NONE);
        doc.due("cost(32)", Checks.drive("s").cost(32), NONE);
        for (int far : Sentences.FAR_OFF) {
            doc.due("cost(" + far + ")", Checks.drive("s").cost(far), NONE);
        }
        doc.due("cost(0) without a DRIVE", none().cost(0), NONE);
        // The first of two cleanings could be: it is not counted.
        ZoneLedger x = Checks.drive("sz3c2r2m3;wk5v7");
        x.finish(0);
        doc.due("cost(5) that fails half way", x.cost(5), NONE);
    }

    // ---- 34 and 35

    /** PUTS drawn as for GROWTH, by hand: how many were. */
    private static int putDrawn(ZoneLedger x, int n, long seed) {
        RecordBoundaries.Draws draws = new RecordBoundaries.Draws(seed);
        for (int i = 0; i < n; i++) {
            int bound = draws.of(32) + 1;
            int key = draws.of(bound);
            if (x.put(key, draws.of(1000)) < 0) {
                return i;
            }
        }
        return n;
    }

    private static int spread(ZoneLedger x) {
        int most = 0;
        int least = Integer.MAX_VALUE;
        for (int zone = 0; zone < x.count(0); zone++) {
            int resets = Sentences.zone(x, zone, 4);
            most = Math.max(most, resets);
            least = Math.min(least, resets);
        }
        return most - least;
    }

    private static int appended(ZoneLedger x) {
        return x.most(11) + x.most(12);
    }

    private void growths() {
        doc.says(34, "GROWTH by a POLICY: n (1 .. 200) times by a seed: a draw of 32 and one of that and 1: the second is the"
                + " KEY; a draw of 1,000: the VALUE: PUT, till one can't be: how many were");
        boolean someEnd = false;
        String[] drives = {"sz5c4m2p3;wk1;wk2;wk3", "sz8c16m3r2", "sz3c8;wk9;wk10", "sz4c16o1a1m3"};
        long[] seeds = {0, -1, 99, Long.MAX_VALUE, Long.MIN_VALUE};
        for (String drive : drives) {
            for (int policy = 0; policy < 4; policy++) {
                for (int n : new int[] {1, 2, 60, 199, 200}) {
                    for (long seed : seeds) {
                        someEnd |= growthDue(drive, policy, n, seed) < n;
                    }
                }
            }
        }
        doc.holds("some came to an end", someEnd);
    }

    private int growthDue(String drive, int policy, int n, long seed) {
        ZoneLedger x = Checks.drive(drive);
        ZoneLedger y = Checks.drive(drive);
        y.policy(policy);
        int before = appended(y);
        int puts = putDrawn(y, n, seed);
        String call = "growth(" + policy + ", " + n + ", " + seed + ", ";
        doc.due(call + "0)", x.growth(policy, n, seed, 0), puts);
        doc.due(call + "1)", x.growth(policy, n, seed, 1), puts == 0 ? 0 : 1000L * (appended(y) - before) / puts);
        doc.due(call + "2)", x.growth(policy, n, seed, 2), spread(y));
        return puts;
    }

    private void growthOfNone() {
        doc.says(34, "1,000 times BLOCKS APPENDED by them, by how many were, cut (0, if none was)");
        ZoneLedger x = Checks.drive("s");
        doc.due("growth of one", x.growth(0, 1, 5, 1), 1000);
        for (int n : new int[] {1, 200}) {
            doc.due("growth of none, 0", allLive().growth(0, n, 5, 0), 0);
            doc.due("growth of none, 1", allLive().growth(0, n, 5, 1), 0);
        }
        boolean someCut = false;
        for (int seed = 0; seed < 40; seed++) {
            ZoneLedger y = Checks.drive("sz4c8");
            int puts = putDrawn(y, 70, seed);
            doc.due("growth(0, 70, " + seed + ", 1)", Checks.drive("sz4c8").growth(0, 70, seed, 1),
                    1000 * appended(y) / puts);
            someCut |= 1000 * appended(y) % puts != 0;
        }
        doc.holds("some are cut", someCut);
        // Of what was there ahead, and what was moved then, nothing is counted.
        x = Checks.drive("sz3c2;wk1;wk2;wk1;wk3;wk4");
        doc.due("growth of none, 1", x.growth(0, 9, 5, 1), 0);

        doc.says(34, "the greatest RESETS of a ZONE less the least then.");
        x = Checks.drive("sz3c2;wk1;wk2;wk3;wk4");
        doc.due("growth of none, 2", x.growth(0, 9, 5, 2), 0);
        for (int i = 0; i < 3; i++) {
            x.open(2);
            x.reset(2);
        }
        doc.due("growth of none, 2, RESETS 3", x.growth(0, 9, 5, 2), 3);
        doc.due("growth(0, 1, 5, 2) of nothing", Checks.drive("s").growth(0, 1, 5, 2), 0);
    }

    private void growthRefused() {
        doc.says(34, "GROWTH: how many were PUT (0), BLOCKS for 1,000 (1), RESETS (2).");
        ZoneLedger x = Checks.drive("sz8c16");
        doc.due("growth(3, 100, 5, 0)", x.growth(3, 100, 5, 0), 100);
        doc.due("growth(3, 100, 5, 1)", x.growth(3, 100, 5, 1), 1000);
        doc.due("growth(3, 100, 5, 2)", x.growth(3, 100, 5, 2), 0);

        doc.says(34, "NONE: no such ones, out of bounds.");
        doc.due("growth(-1, 1, 5, 0)", x.growth(-1, 1, 5, 0), NONE);
        doc.due("growth(4, 1, 5, 0)", x.growth(4, 1, 5, 0), NONE);
        doc.due("growth(0, 1, 5, -1)", x.growth(0, 1, 5, -1), NONE);
        doc.due("growth(0, 1, 5, 3)", x.growth(0, 1, 5, 3), NONE);
        for (int n : BAD_TIMES) {
            doc.due("growth(0, " + n + ", 5, 0)", x.growth(0, n, 5, 0), NONE);
        }
        for (int far : Sentences.FAR_OFF) {
            doc.due("growth(" + far + ", 1, 5, 0)", x.growth(far, 1, 5, 0), NONE);
            doc.due("growth(0, 1, 5, " + far + ")", x.growth(0, 1, 5, far), NONE);
        }
        doc.due("growth(0, 1, 5, 0) without a DRIVE", none().growth(0, 1, 5, 0), NONE);
        doc.due("growth(0, 1, 5, 0)", x.growth(0, 1, 5, 0), 1);
        doc.due("growth(0, 200, 5, 0)", x.growth(0, 200, 5, 0), 200);
    }

    private void bests() {
        doc.says(35, "BEST POLICY by n and a seed: that with the least GROWTH of those by which most were PUT (of several the"
                + " lowest).");
        int[] seen = new int[4];
        for (int seed = 0; seed < 200; seed++) {
            String drive = "sz" + (3 + seed % 3) + "c" + (6 + seed % 7) + "m" + (1 + seed % 2) + ";wk3;wk5";
            seen[bestDue(drive, 60 + seed % 141, seed)]++;
        }
        for (int policy = 0; policy < 4; policy++) {
            doc.holds(policy + " is best once", seen[policy] > 0);
        }
        // More were PUT by these than by others with less GROWTH.
        doc.due("best of most PUT", bestDue("sz6c9m3r2p0a2", 58, 59), 1);
        doc.due("best of most PUT", bestDue("sz7c6m3r1p2a2", 138, 717), 0);
        doc.due("best of most PUT", bestDue("sz5c5m3r1p2a2", 178, 855), 2);
        doc.due("best(1, 5), all alike", Checks.drive("sp3").best(1, 5), 0);
        // What was found ahead is nothing to what is asked next.
        ZoneLedger x = Checks.drive("sz6c9m3r2p0a2");
        doc.due("bestStreams(200, 5)", x.bestStreams(200, 5), Checks.drive("sz6c9m3r2p0a2").bestStreams(200, 5));
        doc.due("best(58, 59) behind it", x.best(58, 59), 1);
        doc.due("best(1, 5) behind it", x.best(1, 5), 0);
        doc.due("best(58, 59) once more", x.best(58, 59), 1);
        doc.due("best(1, 5), none can be", allLive().best(1, 5), 0);

        doc.says(35, "BEST POLICY. NONE: no DRIVE, out of bounds.");
        for (int n : BAD_TIMES) {
            doc.due("best(" + n + ", 5)", Checks.drive("s").best(n, 5), NONE);
        }
        doc.due("best(200, 5)", Checks.drive("sz8c16").best(200, 5) >= 0 ? 1 : 0, 1);
        doc.due("best(1, 5) without a DRIVE", none().best(1, 5), NONE);
    }

    private int bestDue(String drive, int n, long seed) {
        ZoneLedger x = Checks.drive(drive);
        int want = 0;
        for (int policy = 1; policy < 4; policy++) {
            int puts = x.growth(policy, n, seed, 0);
            int most = x.growth(want, n, seed, 0);
            boolean less = x.growth(policy, n, seed, 1) < x.growth(want, n, seed, 1);
            want = puts > most || puts == most && less ? policy : want;
        }
        doc.due("best(" + n + ", " + seed + ") of " + drive, x.best(n, seed), want);
        return want;
    }

    // ---- 36

    private void strains() {
        doc.says(36, "by the POLICY as now, n, a seed: PUT as for GROWTH, with these: how many ZONES are CLOSED, how many"
                + " FINISHED by it (for want of OPEN, of ACTIVE ones).");
        int closedInAll = 0;
        int finishedInAll = 0;
        for (int policy = 0; policy < 4; policy++) {
            for (int o = 1; o <= 8; o++) {
                for (int a = o; a <= 8; a++) {
                    ZoneLedger x = Checks.drive("sz8c4o1a1m3p" + policy);
                    // So few that the LOG has them all.
                    ZoneLedger y = Checks.drive("sz8c4o" + o + "a" + a + "m3p" + policy);
                    putDrawn(y, 14, 99);
                    int closed = logged(y, 5);
                    int finished = logged(y, 3);
                    doc.due("strain(" + o + ", " + a + ", .., 0)", x.strain(o, a, 14, 99, 0), closed);
                    doc.due("strain(" + o + ", " + a + ", .., 1)", x.strain(o, a, 14, 99, 1), finished);
                    closedInAll += closed;
                    finishedInAll += finished;
                }
            }
        }
        doc.holds("some are CLOSED, some FINISHED", closedInAll > 0 && finishedInAll > 0);
        // One OPEN by hand with POINTER 0 that is CLOSED for want is CLOSED, too; what was ahead is not counted.
        ZoneLedger x = Checks.drive("sz6c4o2a2;wk1");
        x.close(0);
        x.open(0);
        x.finish(0);
        x.open(5);
        x.open(4);
        doc.due("strain(2, 3, 1, 5, 0)", x.strain(2, 3, 1, 5, 0), 1);
        doc.due("strain(2, 3, 1, 5, 1)", x.strain(2, 3, 1, 5, 1), 0);
        doc.due("strain(2, 2, 1, 5, 0)", x.strain(2, 2, 1, 5, 0), 0);
        doc.due("strain(2, 2, 1, 5, 1)", x.strain(2, 2, 1, 5, 1), 1);
        doc.due("strain(8, 8, 1, 5, 0)", x.strain(8, 8, 1, 5, 0), 0);
        doc.due("strain(8, 8, 1, 5, 1)", x.strain(8, 8, 1, 5, 1), 0);

        // .. nor what was CLOSED or FINISHED for want ahead.
        x = Checks.drive("sz6c8o1a2m2;wk1;wk1;wk2;wk1");
        doc.due("CLOSED ahead", logged(x, 5), 3);
        doc.due("strain(8, 8, 1, 5, 0)", x.strain(8, 8, 1, 5, 0), 0);
        x = Checks.drive("sz6c8o1a1m2;wk1;wk1;wk2");
        doc.due("FINISHED ahead", logged(x, 3), 2);
        doc.due("strain(8, 8, 1, 5, 1)", x.strain(8, 8, 1, 5, 1), 0);

        doc.says(36, "STRAIN: CLOSED (0), FINISHED (1).");
        x = Checks.drive("sz6c4o2a2;wk1");
        x.finish(0);
        doc.due("strain(3, 3, 1, 5, 0)", x.strain(3, 3, 1, 5, 0), 0);
        doc.due("strain(3, 3, 1, 5, 1)", x.strain(3, 3, 1, 5, 1), 0);
    }

    private static int logged(ZoneLedger x, int sort) {
        int found = 0;
        for (int i = 0; i < x.count(3); i++) {
            found += x.log(i, 0) == sort ? 1 : 0;
        }
        return found;
    }

    private void strainRefused() {
        doc.says(36, "STRAIN by o and a (OPEN, ACTIVE ones at most, a no less than o and than are OPEN or ACTIVE now)");
        // Zones 0 and 1 are OPEN.
        ZoneLedger x = Checks.drive("so2a3m2;wk1;wk1");
        doc.due("strain(1, 2, 1, 5, 0), two are OPEN", x.strain(1, 2, 1, 5, 0), NONE);
        doc.holds("strain(2, 2, 1, 5, 0), two are OPEN", x.strain(2, 2, 1, 5, 0) >= 0);
        x.close(0);
        doc.due("strain(1, 1, 1, 5, 0), two are ACTIVE", x.strain(1, 1, 1, 5, 0), NONE);
        doc.holds("strain(1, 2, 1, 5, 0), two are ACTIVE", x.strain(1, 2, 1, 5, 0) >= 0);
        x.finish(0);
        doc.holds("strain(1, 1, 1, 5, 0), one is ACTIVE", x.strain(1, 1, 1, 5, 0) >= 0);
        x.crash();
        doc.holds("strain(1, 1, 1, 5, 0), one is CLOSED", x.strain(1, 1, 1, 5, 0) >= 0);

        doc.says(36, "NONE: no DRIVE, o not 1 .. 8, a not o .. 8, fewer than are OPEN, ACTIVE now, n out of bounds, no such"
                + " what.");
        x = Checks.drive("so2a3");
        doc.due("strain(0, 1, 1, 5, 0)", x.strain(0, 1, 1, 5, 0), NONE);
        doc.due("strain(0, 0, 1, 5, 0)", x.strain(0, 0, 1, 5, 0), NONE);
        doc.due("strain(1, 1, 1, 5, 0)", x.strain(1, 1, 1, 5, 0), 0);
        doc.due("strain(8, 8, 1, 5, 0)", x.strain(8, 8, 1, 5, 0), 0);
        doc.due("strain(9, 9, 1, 5, 0)", x.strain(9, 9, 1, 5, 0), NONE);
        doc.due("strain(9, 8, 1, 5, 0)", x.strain(9, 8, 1, 5, 0), NONE);
        doc.due("strain(8, 9, 1, 5, 0)", x.strain(8, 9, 1, 5, 0), NONE);
        doc.due("strain(1, 9, 1, 5, 0)", x.strain(1, 9, 1, 5, 0), NONE);
        doc.due("strain(1, 8, 1, 5, 0)", x.strain(1, 8, 1, 5, 0), 0);
        doc.due("strain(3, 2, 1, 5, 0)", x.strain(3, 2, 1, 5, 0), NONE);
        doc.due("strain(8, 7, 1, 5, 0)", x.strain(8, 7, 1, 5, 0), NONE);
        doc.due("strain(2, 2, 1, 5, -1)", x.strain(2, 2, 1, 5, -1), NONE);
        doc.due("strain(2, 2, 1, 5, 2)", x.strain(2, 2, 1, 5, 2), NONE);
        for (int n : BAD_TIMES) {
            doc.due("strain(2, 2, " + n + ", 5, 0)", x.strain(2, 2, n, 5, 0), NONE);
        }
        doc.holds("strain(2, 2, 200, 5, 0)", x.strain(2, 2, 200, 5, 0) >= 0);
        for (int far : Sentences.FAR_OFF) {
            doc.due("strain(" + far + ", 8, 1, 5, 0)", x.strain(far, 8, 1, 5, 0), NONE);
            doc.due("strain(1, " + far + ", 1, 5, 0)", x.strain(1, far, 1, 5, 0), NONE);
            doc.due("strain(1, 1, 1, 5, " + far + ")", x.strain(1, 1, 1, 5, far), NONE);
        }
        doc.due("strain(1, 1, 1, 5, 0) without a DRIVE", none().strain(1, 1, 1, 5, 0), NONE);
    }

    // ---- 37 and 38

    private void freshes() {
        doc.says(37, "FRESH by STREAMS m, n, a seed: GROWTH by the POLICY as now on the drive as it would be with all ZONES"
                + " EMPTY, RESETS 0, no BLOCKS, the NUMBER 0 and m STREAMS.");
        for (int streams = 1; streams <= 3; streams++) {
            for (int n : new int[] {1, 60, 200}) {
                ZoneLedger x = Checks.drive("sz5c6o2a2r2p1m2;wk1;wk2;wk3;wk4");
                x.finish(0);
                x.open(4);
                x.reset(4);
                x.policy(2);
                ZoneLedger y = Checks.drive("sz5c6o2a2r2p2m" + streams);
                int puts = putDrawn(y, n, -5);
                doc.due("fresh(" + streams + ", " + n + ", -5, 0)", x.fresh(streams, n, -5, 0), puts);
                doc.due("fresh(" + streams + ", " + n + ", -5, 1)", x.fresh(streams, n, -5, 1), 1000 * appended(y) / puts);
                doc.due("fresh(" + streams + ", " + n + ", -5, 2)", x.fresh(streams, n, -5, 2), spread(y));
            }
        }

        doc.says(37, "FRESH: how many were PUT (0), BLOCKS for 1,000 (1), RESETS (2).");
        doc.due("fresh(1, 4, 5, 0), though all lives now", allLive().fresh(1, 4, 5, 0), 4);
        doc.due("fresh(1, 4, 5, 1)", allLive().fresh(1, 4, 5, 1), 1000);
        doc.due("fresh(1, 4, 5, 2)", allLive().fresh(1, 4, 5, 2), 0);

        doc.says(37, "NONE: no DRIVE, out of bounds, no such what.");
        ZoneLedger x = Checks.drive("s");
        doc.due("fresh(0, 1, 5, 0)", x.fresh(0, 1, 5, 0), NONE);
        doc.due("fresh(4, 1, 5, 0)", x.fresh(4, 1, 5, 0), NONE);
        doc.due("fresh(3, 1, 5, 0)", x.fresh(3, 1, 5, 0), 1);
        doc.due("fresh(1, 1, 5, -1)", x.fresh(1, 1, 5, -1), NONE);
        doc.due("fresh(1, 1, 5, 3)", x.fresh(1, 1, 5, 3), NONE);
        for (int n : BAD_TIMES) {
            doc.due("fresh(1, " + n + ", 5, 0)", x.fresh(1, n, 5, 0), NONE);
        }
        for (int far : Sentences.FAR_OFF) {
            doc.due("fresh(" + far + ", 1, 5, 0)", x.fresh(far, 1, 5, 0), NONE);
            doc.due("fresh(1, 1, 5, " + far + ")", x.fresh(1, 1, 5, far), NONE);
        }
        doc.due("fresh(1, 1, 5, 0) without a DRIVE", none().fresh(1, 1, 5, 0), NONE);
    }

    private void bestStreams() {
        doc.says(38, "BEST STREAMS: those with the least GROWTH of those by which most were PUT (of several the fewest).");
        for (int seed = 0; seed < 200; seed++) {
            String drive = "sz" + (4 + seed % 4) + "c" + (5 + seed % 7) + "p" + seed % 4 + ";wk3;wk5";
            bestStreamsDue(drive, 60 + seed % 141, seed);
        }
        doc.due("bestStreams, two and three alike", bestStreamsDue("sz4c3m3r1p1a3", 198, 575), 2);
        doc.due("bestStreams, two", bestStreamsDue("sz8c13m3r1p3a4", 141, 613), 2);
        doc.due("bestStreams, three", bestStreamsDue("sz8c10m2r2p3a3", 71, 699), 3);
        // More were PUT with one than with two or three that have less GROWTH.
        doc.due("bestStreams of most PUT", bestStreamsDue("sz4c7m2r1p0a3", 137, 888), 1);
        doc.due("bestStreams(1, 5), all alike", Checks.drive("sm3").bestStreams(1, 5), 1);
        ZoneLedger x = Checks.drive("sz8c10m2r2p3a3");
        doc.holds("best(200, 5)", x.best(200, 5) >= 0);
        doc.due("bestStreams(71, 699) behind it", x.bestStreams(71, 699), 3);
        doc.due("bestStreams(1, 5) behind it", x.bestStreams(1, 5), 1);
        doc.due("bestStreams(71, 699) once more", x.bestStreams(71, 699), 3);

        doc.says(38, "BEST STREAMS. NONE: no DRIVE, out of bounds.");
        for (int n : BAD_TIMES) {
            doc.due("bestStreams(" + n + ", 5)", Checks.drive("s").bestStreams(n, 5), NONE);
        }
        doc.holds("bestStreams(200, 5)", Checks.drive("s").bestStreams(200, 5) >= 1);
        doc.due("bestStreams(1, 5) without a DRIVE", none().bestStreams(1, 5), NONE);
    }

    private int bestStreamsDue(String drive, int n, long seed) {
        ZoneLedger x = Checks.drive(drive);
        int want = 1;
        for (int streams = 2; streams < 4; streams++) {
            int puts = x.fresh(streams, n, seed, 0);
            int most = x.fresh(want, n, seed, 0);
            boolean less = x.fresh(streams, n, seed, 1) < x.fresh(want, n, seed, 1);
            want = puts > most || puts == most && less ? streams : want;
        }
        doc.due("bestStreams(" + n + ", " + seed + ") of " + drive, x.bestStreams(n, seed), want);
        return want;
    }

    // ---- 39 to 43

    private void pasts() {
        doc.says(39, "PAST of a KEY: its BLOCKS, the greatest NUMBER first (of like ones the lowest PLACE).");
        // Zone 0, of STREAM 1, has 1 (1) and 2 (3), zone 1, of STREAM 0, has 1 (2, 4).
        ZoneLedger x = Checks.drive("sz4c3m2;wk1;wk1;wk2;wk1");
        pastDue(x, 1, 17, 16, 0);
        pastDue(x, 2, 1);
        x.finish(1);
        x.clean();
        // 1 (4) is moved behind 1 (1).
        pastDue(x, 1, 2, 0);
        x.delete(1);
        pastDue(x, 1, 32, 2, 0);

        // The later one stands at PLACE 0.
        pastDue(LookBoundaries.olderAbove(), 1, 0, 16);

        doc.says(39, "PAST: the PLACE of the i-th.");
        pastDue(Checks.drive("sz8c16;" + "wk31;".repeat(4) + "wk31"), 31, 4, 3, 2, 1, 0);

        doc.says(39, "NONE: no such ones.");
        doc.due("past(1, 3)", x.past(1, 3), NONE);
        doc.due("past(1, -1)", x.past(1, -1), NONE);
        doc.due("past(9, 0)", x.past(9, 0), NONE);
        doc.due("past(-1, 0)", x.past(-1, 0), NONE);
        doc.due("past(32, 0)", x.past(32, 0), NONE);
        for (int far : Sentences.FAR_OFF) {
            doc.due("past(" + far + ", 0)", x.past(far, 0), NONE);
            doc.due("past(1, " + far + ")", x.past(1, far), NONE);
        }
        doc.due("past(0, 0) without a DRIVE", none().past(0, 0), NONE);
    }

    private void pastDue(ZoneLedger x, int key, int... want) {
        for (int i = 0; i < want.length; i++) {
            doc.due("past(" + key + ", " + i + ")", x.past(key, i), want[i]);
        }
        doc.due("past(" + key + ", " + want.length + ")", x.past(key, want.length), NONE);
    }

    private void elders() {
        doc.says(40, "ELDERS: all LIVE BLOCKS, the least NUMBER first.");
        ZoneLedger x = Checks.drive("sz4c3m2;wk1;wk1;wk2;wk1;wk3");
        // Zone 0 has 1 (1), 2 (3), 3 (5), zone 1 has 1 (2, 4); a DELETION of 2 lives as 6.
        elderDue(x, 1, 17, 2);
        x.delete(2);
        elderDue(x, 17, 2, 18);
        x.finish(0);
        // 3 (5) is moved to zone 2; of 2 nothing older is there then, so that its DELETION is DEAD.
        doc.due("clean()", x.clean(), 1);
        elderDue(x, 17, 32);
        elderDue(Checks.drive("s"));

        elderDue(Checks.drive("sz8c2;wk31;wk0;wk1"), 0, 1, 16);
        elderDue(LookBoundaries.olderAbove(), 32, 33, 0);

        doc.says(40, "ELDERS: the PLACE of the i-th.");
        elderDue(Checks.drive("sz8c2;wk9;wk8;wk7"), 0, 1, 16);

        doc.says(40, "NONE: no such ones.");
        doc.due("elder(2)", x.elder(2), NONE);
        doc.due("elder(-1)", x.elder(-1), NONE);
        for (int far : Sentences.FAR_OFF) {
            doc.due("elder(" + far + ")", x.elder(far), NONE);
        }
        doc.due("elder(0) without a DRIVE", none().elder(0), NONE);
    }

    private void elderDue(ZoneLedger x, int... want) {
        for (int i = 0; i < want.length; i++) {
            doc.due("elder(" + i + ")", x.elder(i), want[i]);
        }
        doc.due("elder(" + want.length + ")", x.elder(want.length), NONE);
    }

    private void gone() {
        doc.says(41, "GONE: NUMBERS, from 1 to that given latest, of which no BLOCK is there.");
        ZoneLedger x = Checks.drive("sz4c2;wk1;wk1;wk1;wk2");
        doc.due("gone(), all are there", x.gone(), 0);
        x.reset(0);
        doc.due("gone(), 1 and 2", x.gone(), 2);
        x.delete(1);
        x.delete(2);
        doc.due("gone(), 1 and 2", x.gone(), 2);
        x.reset(1);
        doc.due("gone(), 1 to 4", x.gone(), 4);
        x.reset(2);
        doc.due("gone(), all 6", x.gone(), 6);
        x.crash();
        doc.due("gone(), the NUMBER is 0 again", x.gone(), 0);

        doc.says(41, "GONE: how many.");
        doc.due("gone() of nothing", Checks.drive("s").gone(), 0);
        doc.says(41, "NONE: no DRIVE.");
        doc.due("gone() without a DRIVE", none().gone(), NONE);
    }

    private void fars() {
        doc.says(42, "FAR with a KEY: how many times (200 at most), one behind the other, it could be PUT (VALUE 0).");
        doc.due("far(0)", Checks.drive("s").far(0), 200);
        doc.due("far(31)", Checks.drive("sz3c2").far(31), 200);
        doc.due("far(1), all lives", allLive().far(1), 0);
        // One place is left in the STREAM's ZONE, and nothing is DEAD: 5 can be PUT once, 3 twice, and then on.
        ZoneLedger x = Checks.drive("sz3c2;wk1;wk2;wk3");
        doc.due("far(5)", x.far(5), farByHand("sz3c2;wk1;wk2;wk3", 5));
        doc.due("far(5) is one", x.far(5), 1);
        doc.due("far(3)", x.far(3), farByHand("sz3c2;wk1;wk2;wk3", 3));
        int[] seen = new int[201];
        String[] drives = {"sz3c2r2m3;wk1", "sz4c2r2m2;wk1;wk2", "sz3c4r2m2;wk1;wk2;wk3", "sz5c2m3r2o1a1;wk4;wk5"};
        for (String drive : drives) {
            for (int key = 0; key < 8; key++) {
                int want = farByHand(drive, key);
                seen[want]++;
                doc.due("far(" + key + ") of " + drive, Checks.drive(drive).far(key), want);
            }
        }
        doc.holds("some come to an end ahead of 200", seen[200] < 32);

        doc.says(42, "FAR. NONE: no such KEY.");
        doc.due("far(-1)", x.far(-1), NONE);
        doc.due("far(32)", x.far(32), NONE);
        for (int far : Sentences.FAR_OFF) {
            doc.due("far(" + far + ")", x.far(far), NONE);
        }
        doc.due("far(0) without a DRIVE", none().far(0), NONE);
    }

    private static int farByHand(String drive, int key) {
        ZoneLedger x = Checks.drive(drive);
        int times = 0;
        while (times < 200 && x.put(key, 0) >= 0) {
            times++;
        }
        return times;
    }

    private void shares() {
        doc.says(43, "SHARES of c (0 .. 999) by POINTERS: c times the one of a ZONE by all, cut (all 0: 0).");
        ZoneLedger x = Checks.drive("sz4c4;wk1;wk2;wk3;wk4;wk5;wk6;wk7");
        doc.due("shares(0, 999), 4 of 7", x.shares(0, 999), 570);
        doc.due("shares(1, 999), 3 of 7", x.shares(1, 999), 428);
        doc.due("shares(2, 999), 0 of 7", x.shares(2, 999), 0);
        doc.due("shares(0, 7)", x.shares(0, 7), 4);
        doc.due("shares(0, 1), cut", x.shares(0, 1), 0);
        doc.due("shares(0, 0)", x.shares(0, 0), 0);
        doc.due("shares(3, 999), all 0", Checks.drive("s").shares(3, 999), 0);
        doc.due("shares(0, 999), all in one", Checks.drive("w").shares(0, 999), 999);

        doc.says(43, "NONE: no such ones.");
        doc.due("shares(0, -1)", x.shares(0, -1), NONE);
        doc.due("shares(0, 1000)", x.shares(0, 1000), NONE);
        doc.due("shares(-1, 1)", x.shares(-1, 1), NONE);
        doc.due("shares(4, 1)", x.shares(4, 1), NONE);
        for (int far : Sentences.FAR_OFF) {
            doc.due("shares(" + far + ", 1)", x.shares(far, 1), NONE);
            doc.due("shares(0, " + far + ")", x.shares(0, far), NONE);
        }
        doc.due("shares(0, 1000), all 0", Checks.drive("s").shares(0, 1000), NONE);
        doc.due("shares(0, 0) without a DRIVE", none().shares(0, 0), NONE);
    }
}
