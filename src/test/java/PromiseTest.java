import java.util.NoSuchElementException;

/** Each promise of the document by its number: ordinary inputs, the edges that it names, wrong inputs. */
public final class PromiseTest {
    private static final int NONE = ZoneLedger.NONE;
    private static final int HIDDEN = ZoneLedger.HIDDEN;
    private static final int THROWS = Integer.MIN_VALUE;

    private static final Checks CHECKS = new Checks();
    private static int promise;

    public static void main(String[] args) {
        texts();
        looks();
        acts();
        scripts();
        foresights();
        counts();
        CHECKS.finish();
    }

    private static void due(String call, long got, long want) {
        CHECKS.due("promise " + promise + ": " + call, got, want);
    }

    private static int zone(ZoneLedger x, int zone, int what) {
        try {
            return x.zone(zone, what);
        } catch (NoSuchElementException e) {
            return THROWS;
        }
    }

    private static void zoneDue(ZoneLedger x, int zone, int... want) {
        for (int what = 0; what < want.length; what++) {
            due("zone(" + zone + ", " + what + ")", zone(x, zone, what), want[what]);
        }
    }

    private static void logDue(ZoneLedger x, int i, int sort, int zone, int amount) {
        due("log(" + i + ", 0)", x.log(i, 0), sort);
        due("log(" + i + ", 1)", x.log(i, 1), zone);
        due("log(" + i + ", 2)", x.log(i, 2), amount);
    }

    private static void statusDue(ZoneLedger x, int... want) {
        for (int what = 0; what < 4; what++) {
            due("status(" + what + ")", x.status(what), want[what]);
        }
    }

    /** The draws of the document. */
    private static final class Draws {
        private long x;

        Draws(long seed) {
            x = seed;
        }

        int of(int j) {
            x = x * 6364136223846793005L + 1442695040888963407L;
            return (int) ((x >>> 33) % j);
        }
    }

    /** PUTS drawn as for GROWTH, by hand. */
    private static int putDrawn(ZoneLedger x, int n, long seed) {
        Draws draws = new Draws(seed);
        for (int i = 0; i < n; i++) {
            int key = draws.of(draws.of(32) + 1);
            if (x.put(key, draws.of(1000)) < 0) {
                return i;
            }
        }
        return n;
    }

    private static int spread(ZoneLedger x) {
        int most = 0;
        int least = Integer.MAX_VALUE;
        for (int z = 0; z < x.count(0); z++) {
            most = Math.max(most, zone(x, z, 4));
            least = Math.min(least, zone(x, z, 4));
        }
        return most - least;
    }

    private static int appended(ZoneLedger x) {
        return x.most(11) + x.most(12);
    }

    // ---- 1 to 5

    private static void texts() {
        promise = 1;
        ZoneLedger x = new ZoneLedger();
        for (int what = 0; what < 5; what++) {
            due("count(" + what + ")", x.count(what), 0);
        }
        due("rule(0)", x.rule(0), NONE);
        due("most(3)", x.most(3), HIDDEN);

        promise = 2;
        due("feed of s z4", x.feed(0x73007A34, 0, 0, 0, 0), 3);
        due("fault(0)", x.fault(0), NONE);
        due("feed of ;w", x.feed(0, 0, 0x003B0000, 0, 0x00000077), 5);
        due("fault(0)", x.fault(0), NONE);
        due("feed of bytes 255", x.feed(-1, -1, -1, -1, -1), 25);
        due("fault(0)", x.fault(0), 5);
        x.end(0);
        for (int i = 1; i <= 12; i++) {
            due("feed", x.feed(0x20202020, 0x20202020, 0x20202020, 0x20202020, 0x20202020), 20 * i);
        }
        due("feed beyond 240", x.feed(0, 0, 0, 0, 1), NONE);
        due("count(2)", x.count(2), 240);
        due("feed of nothing", x.feed(0, 0, 0, 0, 0), 240);
        x.end(239);
        due("feed of two", x.feed(0x20200000, 0, 0, 0, 0), NONE);
        due("feed of one", x.feed(0x20000000, 0, 0, 0, 0), 240);

        promise = 3;
        Checks.feed(x, "sz5;w;");
        due("end(-1)", x.end(-1) ? 1 : 0, 0);
        due("end(7)", x.end(7) ? 1 : 0, 0);
        due("count(2)", x.count(2), 6);
        due("end(6)", x.end(6) ? 1 : 0, 1);
        due("fault(0)", x.fault(0), 6);
        due("end(5)", x.end(5) ? 1 : 0, 1);
        due("fault(0)", x.fault(0), NONE);
        due("text(0)", x.text(0), 5);
        due("end(1) of an empty one", x.end(1) ? 1 : 0, 0);

        promise = 4;
        faults();

        promise = 5;
        tellings();
    }

    private static void faultDue(int sort, String text, int want) {
        ZoneLedger x = new ZoneLedger();
        Checks.feed(x, text);
        due("fault(" + sort + ") of '" + text + "'", x.fault(sort), want);
        due("text(" + sort + ") of '" + text + "'", x.text(sort) < 0 ? 1 : 0, want == NONE ? 0 : 1);
    }

    private static void faults() {
        ZoneLedger x = new ZoneLedger();
        due("fault(-1)", x.fault(-1), -2);
        due("fault(2)", x.fault(2), -2);
        String[] good = {"s", "w", " s ", "w;s", "sz3", "sz8", "sc2", "sc16", "so1o", "sp0", "sp3", "sr2m3a8o8c002z003",
            "wk31v999", "wv0k000", " w k 1 v 2 ; s z 3 ", "s;w;w"};
        for (String text : good) {
            faultDue(0, text, text.equals("so1o") ? 3 : NONE);
        }
        faultDue(0, "", 0);
        faultDue(0, "   ", 3);
        faultDue(0, ";", 0);
        faultDue(0, "x", 0);
        faultDue(0, "S", 0);
        faultDue(0, "s;", 2);
        faultDue(0, "s;;", 2);
        faultDue(0, "s;s", 2);
        faultDue(0, "w;s;w;s", 6);
        faultDue(0, "sk1", 1);
        faultDue(0, "wz4", 1);
        faultDue(0, "sz", 2);
        faultDue(0, "szz", 2);
        faultDue(0, "sz 4 4", 5);
        faultDue(0, "sz2", 2);
        faultDue(0, "sz9", 2);
        faultDue(0, "sz44", 3);
        faultDue(0, "sz444", 4);
        faultDue(0, "sz0004", 5);
        faultDue(0, "sz9999", 5);
        faultDue(0, "sc1", 2);
        faultDue(0, "sc1 6", 2);
        faultDue(0, "sc17", 3);
        faultDue(0, "so0", 2);
        faultDue(0, "so9", 2);
        faultDue(0, "sa0", 2);
        faultDue(0, "sm0", 2);
        faultDue(0, "sm4", 2);
        faultDue(0, "sr3", 2);
        faultDue(0, "sp4", 2);
        faultDue(0, "sz4z4", 3);
        faultDue(0, "wk1k1", 3);
        faultDue(0, "wk1;wk1", NONE);
        faultDue(0, "wk32", 3);
        faultDue(0, "wv1000", 5);
        faultDue(0, "sz-4", 2);
        faultDue(0, "w;".repeat(24) + "s", NONE);
        faultDue(0, "w;".repeat(24) + "w", 48);
        faultDue(0, "s;" + "w;".repeat(24) + "w", 50);
        faultDue(0, "s;" + "w;".repeat(24) + "s", 50);
        faultDue(0, "s;" + "w;".repeat(24), 50);
        scriptFaults();
    }

    private static void scriptFaults() {
        String[] good = {"p0=0", "p31=999", "p031=009", "d31", "c", "x", "o0", "l9", "f5", "r7", "y0", "y9",
            " p 1 = 2 ; d 3 ; c ; x ; o 4 ", "c;c"};
        for (String text : good) {
            faultDue(1, text, NONE);
        }
        faultDue(1, "", 0);
        faultDue(1, " ", 1);
        faultDue(1, "z", 0);
        faultDue(1, "p", 1);
        faultDue(1, "p=", 1);
        faultDue(1, "p32=1", 2);
        faultDue(1, "p1", 2);
        faultDue(1, "p1 5", 3);
        faultDue(1, "p1==", 3);
        faultDue(1, "p1=", 3);
        faultDue(1, "p1=1000", 6);
        faultDue(1, "p1=5 5", 5);
        faultDue(1, "p1111=5", 4);
        faultDue(1, "d", 1);
        faultDue(1, "d32", 2);
        faultDue(1, "d3=1", 2);
        faultDue(1, "c1", 1);
        faultDue(1, "o", 1);
        faultDue(1, "o10", 2);
        faultDue(1, "y12", 2);
        faultDue(1, "c;", 2);
        faultDue(1, "c;;", 2);
        faultDue(1, "cc", 1);
        faultDue(1, "c;".repeat(15) + "c", NONE);
        faultDue(1, "c;".repeat(16), 31);
        faultDue(1, "c;".repeat(16) + "c", 31);
    }

    private static void tellings() {
        ZoneLedger x = new ZoneLedger();
        due("text(0) of nothing", x.text(0), NONE);
        Checks.feed(x, "sz4x");
        due("text(0) with a FAULT", x.text(0), NONE);
        due("count(2)", x.count(2), 4);
        due("text(-1)", x.text(-1), NONE);
        due("text(2)", x.text(2), NONE);
        x.end(3);
        due("text(0)", x.text(0), 4);
        due("count(2)", x.count(2), 0);
        for (int i = 0; i < 4; i++) {
            due("text(1)", Checks.script(x, "p" + i + "=1"), i);
        }
        due("a fifth", Checks.script(x, "c"), NONE);
        due("count(2)", x.count(2), 1);
        due("count(1)", x.count(1), 4);
        x.put(1, 1);
        x.put(99, 1);
        x.image();
        // What is written first is PUT, no ACT, but in the LOG; what can't be is left out.
        Checks.feed(x, "wk1v2;wk1v3;sz3c2;wk2v4;wk3v5;wk4v6;wk5v7;wk6v8");
        due("text(0)", x.text(0), 3);
        due("get(1)", x.get(1), 3);
        due("get(2)", x.get(2), 4);
        due("get(4)", x.get(4), 6);
        due("get(5)", x.get(5), NONE);
        due("get(6)", x.get(6), NONE);
        due("most(11)", x.most(11), 5);
        due("count(4)", x.count(4), 0);
        due("undo()", x.undo(), NONE);
        due("back()", x.back(), NONE);
        due("status(0)", x.status(0), 1);
        due("count(1)", x.count(1), 4);
        // Zone 0 has 1 twice, zone 1 has 1 and 2; the cleaning moved 1 into zone 2.
        due("count(3)", x.count(3), 7);
    }

    // ---- 6 to 13

    private static void looks() {
        promise = 6;
        rules();

        promise = 7;
        ZoneLedger x = Checks.drive("sz3c4");
        x.put(1, 10);
        x.put(2, 20);
        x.put(1, 11);
        zoneDue(x, 0, 1, 3, 2, 2, 0, 0, 0, 2);
        zoneDue(x, 1, 0, 0, 0, 4, 0, 0, NONE, 4);
        x.put(3, 30);
        zoneDue(x, 0, 3, 4, 3, 1, 0, 0, 0, 1);
        x.put(4, 40);
        zoneDue(x, 0, 3, 4, 3, 1, 0, 1, NONE, 1);
        zoneDue(x, 1, 1, 1, 1, 3, 0, 0, 0, 3);
        x.close(1);
        due("zone(1, 0)", zone(x, 1, 0), 2);
        x.policy(3);
        due("zone(0, 7)", zone(x, 0, 7), 20001);
        due("zone(-1, 0)", zone(x, -1, 0), THROWS);
        due("zone(3, 0)", zone(x, 3, 0), THROWS);
        due("zone(0, -1)", zone(x, 0, -1), THROWS);
        due("zone(0, 8)", zone(x, 0, 8), THROWS);
        due("zone(0, 0) without a DRIVE", zone(new ZoneLedger(), 0, 0), THROWS);

        promise = 8;
        x = Checks.drive("sz3c4;wk1v10;wk2v20;wk1v11");
        x.delete(2);
        int[][] blocks = {{1, 10, 1, 0}, {2, 20, 2, 0}, {1, 11, 3, 1}, {2, NONE, 4, 1}};
        for (int i = 0; i < 4; i++) {
            for (int what = 0; what < 4; what++) {
                due("block(0, " + i + ", " + what + ")", x.block(0, i, what), blocks[i][what]);
            }
        }
        due("block(0, 4, 0)", x.block(0, 4, 0), HIDDEN);
        due("block(0, -1, 0)", x.block(0, -1, 0), HIDDEN);
        due("block(1, 0, 0)", x.block(1, 0, 0), HIDDEN);
        due("block(3, 0, 0)", x.block(3, 0, 0), HIDDEN);
        due("block(-1, 0, 0)", x.block(-1, 0, 0), HIDDEN);
        due("block(0, 0, 4)", x.block(0, 0, 4), HIDDEN);
        due("block(0, 0, -1)", x.block(0, 0, -1), HIDDEN);

        promise = 9;
        due("get(1)", x.get(1), 11);
        due("get(2)", x.get(2), NONE);
        due("get(3)", x.get(3), NONE);
        due("get(-1)", x.get(-1), NONE);
        due("get(32)", x.get(32), NONE);

        promise = 10;
        keys(x);

        promise = 11;
        x = Checks.drive("wk0;wk5v1;wk31v2");
        due("next(0)", x.next(0), 0);
        due("next(1)", x.next(1), 5);
        due("next(5)", x.next(5), 5);
        due("next(6)", x.next(6), 31);
        due("next(-1)", x.next(-1), NONE);
        due("next(32)", x.next(32), NONE);
        x.delete(31);
        due("next(6)", x.next(6), NONE);

        promise = 12;
        x.put(6, 999);
        due("range(0, 31, 0)", x.range(0, 31, 0), 3);
        due("range(0, 31, 1)", x.range(0, 31, 1), 1000);
        due("range(5, 5, 1)", x.range(5, 5, 1), 1);
        due("range(7, 31, 0)", x.range(7, 31, 0), 0);
        due("range(6, 5, 0)", x.range(6, 5, 0), NONE);
        due("range(-1, 5, 0)", x.range(-1, 5, 0), NONE);
        due("range(0, 32, 0)", x.range(0, 32, 0), NONE);
        due("range(0, 31, 2)", x.range(0, 31, 2), NONE);
        due("range(0, 31, -1)", x.range(0, 31, -1), NONE);

        promise = 13;
        x = Checks.drive("sm2");
        due("stream(1)", x.stream(1), NONE);
        x.put(1, 1);
        due("stream(1)", x.stream(1), 0);
        due("stream(0)", x.stream(0), NONE);
        x.put(1, 1);
        due("stream(0)", x.stream(0), 1);
        due("stream(2)", x.stream(2), NONE);
        due("stream(-1)", x.stream(-1), NONE);
        x.finish(0);
        due("stream(1) of a FULL one", x.stream(1), 0);
    }

    private static void rules() {
        int[] without = {4, 8, 2, 3, 1, 1, 0};
        int[] told = {8, 16, 4, 5, 3, 2, 1};
        int[] lessActive = {4, 8, 2, 2, 1, 1, 0};
        int[] activeNotTold = {4, 8, 3, 3, 1, 1, 0};
        for (int what = 0; what < 7; what++) {
            due("rule(" + what + ")", Checks.drive("w").rule(what), without[what]);
            due("rule(" + what + ")", Checks.drive("sz8c16o4a5m3r2p1").rule(what), told[what]);
            due("rule(" + what + ")", Checks.drive("so7a2").rule(what), lessActive[what]);
            due("rule(" + what + ")", Checks.drive("so7").rule(what), activeNotTold[what]);
        }
        ZoneLedger x = Checks.drive("sp2");
        x.policy(1);
        due("rule(6) set", x.rule(6), 1);
        due("rule(7)", x.rule(7), NONE);
        due("rule(-1)", x.rule(-1), NONE);
    }

    private static void keys(ZoneLedger x) {
        int[][] want = {{2, 3, 0, 2}, {3, 4, 0, 2}, {NONE, NONE, 0, 0}};
        for (int what = 0; what < 4; what++) {
            for (int key = 1; key < 4; key++) {
                due("key(" + key + ", " + what + ")", x.key(key, what), want[key - 1][what]);
            }
        }
        due("key(0, 4)", x.key(0, 4), NONE);
        due("key(0, -1)", x.key(0, -1), NONE);
        due("key(-1, 0)", x.key(-1, 0), NONE);
        due("key(32, 3)", x.key(32, 3), NONE);
        ZoneLedger two = Checks.drive("sz8c16m2");
        ZoneLedger three = Checks.drive("sz8c16m3");
        due("key(1, 2) without a LATEST, of two", two.key(1, 2), 1);
        due("key(1, 2) without a LATEST, of three", three.key(1, 2), 2);
        for (int number = 1; number <= 20; number++) {
            two.put(number, 1);
            three.put(number, 1);
            // The DISTANCE of 1 is the NUMBER given latest, as its own is 1.
            due("key(1, 2) at " + number, two.key(1, 2), number <= 8 ? 0 : 1);
            due("key(1, 2) at " + number, three.key(1, 2), number <= 4 ? 0 : number <= 16 ? 1 : 2);
        }
        due("key(1, 0)", three.key(1, 0), 0);
    }

    // ---- 14 to 26

    private static void acts() {
        promise = 14;
        puts();
        promise = 15;
        deletes();
        promise = 16;
        cleans();
        promise = 17;
        crashes();
        promise = 18;
        opens();
        promise = 19;
        closes();
        promise = 20;
        finishes();
        promise = 21;
        resets();
        promise = 22;
        policies();
        promise = 23;
        years();
        promise = 24;
        ZoneLedger x = new ZoneLedger();
        statusDue(x, 0, 0, 0, 0);
        due("status(-1)", x.status(-1), NONE);
        due("status(4)", x.status(4), NONE);
        due("years without a DRIVE", x.years(1, 1), NONE);
        statusDue(x, 0, 0, 0, 0);
        promise = 25;
        undos();
        promise = 26;
        logs();
    }

    private static void puts() {
        ZoneLedger x = Checks.drive("sz3c2");
        due("put(31, 999)", x.put(31, 999), 0);
        due("put(0, 0)", x.put(0, 0), 1);
        due("put(1, 0)", x.put(1, 0), 16);
        due("put(-1, 0)", x.put(-1, 0), NONE);
        due("put(32, 1000)", x.put(32, 1000), NONE);
        due("put(0, -1)", x.put(0, -1), NONE);
        due("put(0, 1000)", x.put(0, 1000), NONE);
        statusDue(x, 2, 2, 0, 0);
        due("put(2, 0)", x.put(2, 0), 17);
        due("put(3, 0) that can't be", x.put(3, 0), NONE);
        statusDue(x, 2, 2, 0, 1);
        due("count(4)", x.count(4), 4);
        due("put(0, 0) without a DRIVE", new ZoneLedger().put(0, 0), NONE);

        // Too few may be OPEN: the one that was let be longest is CLOSED.
        x = Checks.drive("sz6c4o1a3m2");
        x.put(1, 1);
        due("put(1, 2)", x.put(1, 2), 16);
        due("zone(0, 0)", zone(x, 0, 0), 2);
        due("zone(1, 0)", zone(x, 1, 0), 1);
        logDue(x, 1, 5, 0, 1);
        due("put(2, 2)", x.put(2, 2), 1);
        due("zone(0, 0)", zone(x, 0, 0), 1);
        due("zone(1, 0)", zone(x, 1, 0), 2);

        // Too few may be ACTIVE: the other STREAM's is FINISHED.
        x = Checks.drive("sz6c4o1a1m2");
        x.put(1, 1);
        due("put(1, 2)", x.put(1, 2), 16);
        due("zone(0, 0)", zone(x, 0, 0), 3);
        logDue(x, 1, 3, 0, 1);

        // .. but one that is no STREAM's goes ahead of it.
        x = Checks.drive("sz6c4o2a2m2");
        x.put(1, 1);
        x.open(3);
        due("put(1, 2)", x.put(1, 2), 16);
        due("zone(0, 0)", zone(x, 0, 0), 1);
        due("zone(3, 0)", zone(x, 3, 0), 3);
        logDue(x, 1, 3, 3, 0);

        // One OPENED by hand is CLOSED ahead of all others, and EMPTY with POINTER 0.
        x = Checks.drive("sz6c4o2a4m2");
        x.put(1, 1);
        x.open(3);
        due("put(1, 2)", x.put(1, 2), 16);
        due("zone(3, 0)", zone(x, 3, 0), 0);
        due("zone(0, 0)", zone(x, 0, 0), 1);
        logDue(x, 1, 5, 3, 0);
        x.close(1);
        x.open(1);
        x.put(9, 1);
        x.close(0);
        x.open(2);
        due("put(8, 1)", x.put(8, 1), 2);
        due("zone(1, 0), OPENED again by hand", zone(x, 1, 0), 2);
        due("zone(2, 0)", zone(x, 2, 0), 1);
        putsThatClean();
    }

    private static void putsThatClean() {
        // 2 cleanings are needed; the second can't be: nothing is done.
        ZoneLedger x = Checks.drive("sz3c2r2m3;wk5v7");
        x.finish(0);
        due("put(5, 8)", x.put(5, 8), NONE);
        statusDue(x, 0, 0, 0, 1);
        due("zone(0, 0)", zone(x, 0, 0), 3);
        due("zone(0, 4)", zone(x, 0, 4), 0);
        due("most(8)", x.most(8), 1);
        due("most(12)", x.most(12), 0);
        due("most(13)", x.most(13), 0);
        due("stream(2)", x.stream(2), 0);
        due("count(3)", x.count(3), 2);
        due("count(4)", x.count(4), 1);
        due("clean()", x.clean(), 1);

        // Two that can be; the ZONE with the fewest RESETS is taken then.
        x = Checks.drive("sz4c2r2m2;wk1;wk2;wk1;wk1");
        due("put(1, 9)", x.put(1, 9), 48);
        due("most(13)", x.most(13), 2);
        due("most(12)", x.most(12), 2);
        due("block(2, 0, 0)", x.block(2, 0, 0), 2);
        due("block(2, 1, 0)", x.block(2, 1, 0), 1);
        due("count(4)", x.count(4), 1);
        due("undo()", x.undo(), 0);
        due("most(13)", x.most(13), 0);
    }

    private static void deletes() {
        ZoneLedger x = Checks.drive("sz4c4;wk1v1;wk2v2");
        due("delete(1)", x.delete(1), 2);
        due("get(1)", x.get(1), NONE);
        due("block(0, 2, 1)", x.block(0, 2, 1), NONE);
        due("block(0, 2, 2)", x.block(0, 2, 2), 3);
        due("delete(1)", x.delete(1), NONE);
        due("delete(3)", x.delete(3), NONE);
        due("delete(-1)", x.delete(-1), NONE);
        due("delete(32)", x.delete(32), NONE);
        statusDue(x, 2, 0, 2, 0);
        due("most(11)", x.most(11), 3);
        // Full of what lives: there is no room for a DELETION.
        x = Checks.drive("sz3c2;wk1;wk2;wk3;wk4");
        due("delete(1)", x.delete(1), NONE);
        statusDue(x, 0, 0, 0, 1);
        due("delete(0) without a DRIVE", new ZoneLedger().delete(0), NONE);
    }

    private static void cleans() {
        ZoneLedger x = Checks.drive("sz4c4;wk1v1;wk2v2;wk1v3;wk3v4");
        due("clean()", x.clean(), 3);
        due("key(2, 0)", x.key(2, 0), 16);
        due("key(1, 0)", x.key(1, 0), 17);
        due("key(3, 0)", x.key(3, 0), 18);
        due("key(1, 1)", x.key(1, 1), 3);
        zoneDue(x, 0, 0, 0, 0, 4, 1);
        logDue(x, 0, 2, 0, 1);
        logDue(x, 1, 1, 1, 18);
        due("clean()", x.clean(), NONE);
        statusDue(x, 0, 0, 1, 0);
        due("most(13)", x.most(13), 1);
        due("clean() without a DRIVE", new ZoneLedger().clean(), NONE);

        // A DELETION is moved as long as something older is there, and is DEAD behind it.
        x = Checks.drive("sz4c2;wk1v1");
        x.delete(1);
        due("clean()", x.clean(), 1);
        due("most(9)", x.most(9), 0);
        x.finish(1);
        due("clean()", x.clean(), 0);
        due("most(8)", x.most(8), 0);

        // More LIVE ones than room: no ZONE is EMPTY.
        x = Checks.drive("sz3c4r1;wk1;wk2;wk3;wk1");
        x.open(1);
        x.open(2);
        due("clean()", x.clean(), NONE);
        statusDue(x, 0, 0, 0, 1);
        // OPENED ones are no room, but the STREAM's own is.
        x = Checks.drive("sz3c4r1a8o8;wk1;wk2;wk3;wk1;wk9");
        x.open(2);
        due("clean() into the STREAM's", x.clean(), 3);
        due("key(1, 0)", x.key(1, 0), 19);

        // The greatest SCORE by each POLICY: zone 0 has DEAD 1 and AGE 4, zone 1 has DEAD 2 and AGE 0.
        int[] taken = {1, 0, 0, 1};
        for (int policy = 0; policy < 4; policy++) {
            x = Checks.drive("sz5c4p" + policy + ";wk1;wk2;wk3;wk4;wk5;wk5;wk5;wk1");
            due("order", x.order(policy, 0), taken[policy]);
            x.clean();
            due("zone(" + taken[policy] + ", 4) by " + policy, zone(x, taken[policy], 4), 1);
        }
    }

    private static void crashes() {
        ZoneLedger x = Checks.drive("sz6c4o3a4m2;wk1v1;wk1v2");
        x.open(4);
        due("crash()", x.crash(), 1);
        due("zone(0, 0)", zone(x, 0, 0), 2);
        due("zone(1, 0)", zone(x, 1, 0), 2);
        due("zone(4, 0)", zone(x, 4, 0), 0);
        due("stream(0)", x.stream(0), 0);
        due("stream(1)", x.stream(1), 1);
        due("most(14)", x.most(14), 1);
        logDue(x, 0, 6, NONE, 1);
        logDue(x, 1, 4, 4, 0);
        due("crash() without a DRIVE", new ZoneLedger().crash(), NONE);

        // The NUMBER given latest is what is there: of a DELETION that is gone nothing is left.
        x = Checks.drive("sz4c2;wk1v1");
        x.delete(1);
        x.clean();
        x.finish(1);
        x.reset(1);
        due("most(15)", x.most(15), 2);
        due("gone()", x.gone(), 2);
        due("crash()", x.crash(), 0);
        due("most(15)", x.most(15), 0);
        due("stream(0)", x.stream(0), NONE);
        x.put(3, 3);
        due("key(3, 1)", x.key(3, 1), 1);
        // More ACTIVE ones than STREAMS.
        x = Checks.drive("sz6c4a4m2;wk1;wk1");
        x.crash();
        x.finish(0);
        x.put(1, 1);
        x.put(9, 1);
        x.crash();
        due("stream(0)", x.stream(0), 1);
        due("stream(1)", x.stream(1), 2);
        due("most(5)", x.most(5), 6);
    }

    private static void opens() {
        ZoneLedger x = Checks.drive("sz6c4o2a3");
        due("open(5)", x.open(5), 1);
        due("open(3)", x.open(3), 2);
        due("open(3)", x.open(3), NONE);
        due("open(2)", x.open(2), NONE);
        due("open(6)", x.open(6), NONE);
        due("open(-1)", x.open(-1), NONE);
        statusDue(x, 2, 0, 1, 1);
        x.finish(5);
        due("open(5), FULL", x.open(5), NONE);
        statusDue(x, 2, 0, 2, 1);
        logDue(x, 1, 4, 3, 0);
        due("open(0) without a DRIVE", new ZoneLedger().open(0), NONE);
        // As many ACTIVE as may be: a CLOSED one may still be OPENED.
        x = Checks.drive("sz6c4o2a2m2;wk1;wk1");
        x.close(0);
        x.close(1);
        due("open(2)", x.open(2), NONE);
        statusDue(x, 0, 0, 0, 1);
        due("open(0)", x.open(0), 1);
        due("zone(0, 0)", zone(x, 0, 0), 1);
    }

    private static void closes() {
        ZoneLedger x = Checks.drive("wk1");
        x.open(2);
        due("close(0)", x.close(0), 1);
        due("zone(0, 0)", zone(x, 0, 0), 2);
        logDue(x, 0, 5, 0, 1);
        due("close(2)", x.close(2), 0);
        due("zone(2, 0)", zone(x, 2, 0), 0);
        due("stream(0)", x.stream(0), 0);
        due("close(0)", x.close(0), NONE);
        due("close(1)", x.close(1), NONE);
        due("close(4)", x.close(4), NONE);
        due("close(-1)", x.close(-1), NONE);
        statusDue(x, 2, 0, 2, 0);
        due("put(2, 2)", x.put(2, 2), 1);
        due("zone(0, 0)", zone(x, 0, 0), 1);
        due("close(0) without a DRIVE", new ZoneLedger().close(0), NONE);
    }

    private static void finishes() {
        ZoneLedger x = Checks.drive("wk1;wk2");
        x.open(3);
        due("finish(0)", x.finish(0), 2);
        zoneDue(x, 0, 3, 2, 2, 6);
        logDue(x, 0, 3, 0, 2);
        due("finish(3)", x.finish(3), 0);
        due("zone(3, 0)", zone(x, 3, 0), 3);
        due("finish(0)", x.finish(0), NONE);
        due("finish(1)", x.finish(1), NONE);
        due("finish(4)", x.finish(4), NONE);
        due("finish(-1)", x.finish(-1), NONE);
        statusDue(x, 2, 0, 2, 0);
        due("put(3, 3)", x.put(3, 3), 16);
        x.close(1);
        due("finish(1), CLOSED", x.finish(1), 1);
        due("finish(0) without a DRIVE", new ZoneLedger().finish(0), NONE);
    }

    private static void resets() {
        ZoneLedger x = Checks.drive("sz4c2;wk1;wk2;wk1;wk2");
        due("reset(1)", x.reset(1), NONE);
        due("reset(2)", x.reset(2), NONE);
        due("reset(4)", x.reset(4), NONE);
        due("reset(-1)", x.reset(-1), NONE);
        statusDue(x, 2, 0, 1, 1);
        due("reset(0)", x.reset(0), 1);
        zoneDue(x, 0, 0, 0, 0, 2, 1);
        logDue(x, 0, 2, 0, 1);
        due("stream(0)", x.stream(0), 1);
        x.open(2);
        due("reset(2), OPEN", x.reset(2), 1);
        due("stream(0)", x.stream(0), 1);
        due("reset(0) without a DRIVE", new ZoneLedger().reset(0), NONE);
        // The STREAM whose it was has none.
        x = Checks.drive("sz4c2;wk1");
        x.delete(1);
        x.clean();
        due("stream(0)", x.stream(0), 1);
        due("reset(1)", x.reset(1), 1);
        due("stream(0)", x.stream(0), NONE);
        // The EMPTY one with the fewest RESETS is the next.
        due("put(1, 1)", x.put(1, 1), 32);
    }

    private static void policies() {
        ZoneLedger x = Checks.drive("sp1");
        due("policy(3)", x.policy(3), 1);
        due("policy(0)", x.policy(0), 3);
        due("policy(0)", x.policy(0), NONE);
        due("policy(-1)", x.policy(-1), NONE);
        due("policy(4)", x.policy(4), NONE);
        statusDue(x, 0, 2, 1, 0);
        due("count(3)", x.count(3), 0);
        due("undo()", x.undo(), 1);
        due("rule(6)", x.rule(6), 3);
        due("policy(9) without a DRIVE", new ZoneLedger().policy(9), NONE);
    }

    private static void years() {
        for (int seed = 0; seed < 40; seed++) {
            ZoneLedger x = Checks.drive("sz4c4m2o2a2p" + seed % 4);
            ZoneLedger y = Checks.drive("sz4c4m2o2a2p" + seed % 4);
            int n = 1 + seed;
            Draws draws = new Draws(-9L * seed);
            int done = 0;
            for (int i = 0; i < n; i++) {
                int sort = draws.of(8);
                int answer;
                if (sort < 5) {
                    int key = draws.of(32);
                    answer = y.put(key, draws.of(1000));
                } else if (sort == 5) {
                    answer = y.delete(draws.of(32));
                } else {
                    answer = sort == 6 ? y.clean() : y.finish(draws.of(4));
                }
                done += answer >= 0 ? 1 : 0;
            }
            due("years(" + n + ", ..)", x.years(n, -9L * seed), y.most(15));
            due("count(4)", x.count(4), done);
            statusDue(x, 0, 0, 0, 0);
            for (int what = 0; what < 17; what++) {
                due("most(" + what + ")", x.most(what), y.most(what));
            }
        }
        ZoneLedger x = Checks.drive("s");
        due("years(0, 1)", x.years(0, 1), NONE);
        due("years(41, 1)", x.years(41, 1), NONE);
        due("count(3)", x.count(3), 0);
    }

    private static void undos() {
        ZoneLedger x = Checks.drive("wk1v1");
        due("undo()", x.undo(), NONE);
        for (int i = 0; i < 50; i++) {
            x.put(1, 100 + i);
        }
        x.put(99, 0);
        due("count(4)", x.count(4), 40);
        for (int i = 39; i >= 0; i--) {
            due("undo()", x.undo(), i);
            due("get(1)", x.get(1), 109 + i);
        }
        due("undo()", x.undo(), NONE);
        due("status(0)", x.status(0), 1);
        // A refused one among forty leaves all forty.
        x = Checks.drive("sz3c2");
        for (int i = 0; i < 41; i++) {
            x.policy(1 - i % 2);
        }
        x.clean();
        x.reset(0);
        due("count(4)", x.count(4), 40);
        for (int i = 39; i >= 0; i--) {
            due("undo()", x.undo(), i);
            due("rule(6)", x.rule(6), 1 - i % 2);
        }
        // Who was let be longest is undone, too.
        x = Checks.drive("sz6c8o2a4m3;wk1;wk2;wk3;wk3;wk3");
        due("put(9, 1)", x.put(9, 1), 3);
        x.undo();
        due("put(1, 1)", x.put(1, 1), 32);
        due("zone(0, 0)", zone(x, 0, 0), 2);
        due("zone(1, 0)", zone(x, 1, 0), 1);
    }

    private static void logs() {
        ZoneLedger x = Checks.drive("sz4c16");
        due("log(0, 0)", x.log(0, 0), HIDDEN);
        for (int i = 0; i < 70; i++) {
            x.put(1, i);
        }
        due("count(3)", x.count(3), 60);
        due("log(0, 0)", x.log(0, 0), 0);
        due("log(59, 0)", x.log(59, 0) >= 0 ? 1 : 0, 1);
        due("log(60, 0)", x.log(60, 0), HIDDEN);
        due("log(-1, 0)", x.log(-1, 0), HIDDEN);
        due("log(0, 3)", x.log(0, 3), HIDDEN);
        due("log(0, -1)", x.log(0, -1), HIDDEN);
        int oldest = x.log(58, 2);
        x.undo();
        due("log(57, 2) is one behind", x.log(57, 2), oldest);
        due("count(3)", x.count(3), 60);
    }

    // ---- 27 to 29

    private static void scripts() {
        promise = 27;
        ZoneLedger x = new ZoneLedger();
        due("step without a SCRIPT", x.step(0, 0, 0), HIDDEN);
        Checks.script(x, "p31=999;d7;c;x;o1;l2;f3;r9;y0");
        int[][] want = {{0, 31, 999}, {1, 7, NONE}, {2, NONE, NONE}, {3, NONE, NONE}, {4, 1, NONE}, {5, 2, NONE},
            {6, 3, NONE}, {7, 9, NONE}, {8, 0, NONE}};
        for (int i = 0; i < 9; i++) {
            for (int what = 0; what < 3; what++) {
                due("step(0, " + i + ", " + what + ")", x.step(0, i, what), want[i][what]);
            }
        }
        due("step(0, 9, 0)", x.step(0, 9, 0), HIDDEN);
        due("step(0, -1, 0)", x.step(0, -1, 0), HIDDEN);
        due("step(0, 0, 3)", x.step(0, 0, 3), HIDDEN);
        due("step(0, 0, -1)", x.step(0, 0, -1), HIDDEN);
        due("step(1, 0, 0)", x.step(1, 0, 0), HIDDEN);
        due("step(-1, 0, 0)", x.step(-1, 0, 0), HIDDEN);

        promise = 28;
        due("run without a DRIVE", x.run(0, 0), HIDDEN);
        x = Checks.drive("sz4c2r1;wk1;wk2");
        Checks.script(x, "p1=1;p2=2;r0;o3;l3;y1");
        Checks.script(x, "p1=1;c;d1;x;o9;p1=1");
        Checks.script(x, "y0");
        due("run(0, 0)", x.run(0, 0), NONE);
        due("run(0, 1)", x.run(0, 1), 2);
        // 2 is moved by the cleaning, behind which the DELETION of 1 stands in a ZONE of its own.
        due("run(1, 0)", x.run(1, 0), 4);
        due("run(1, 1)", x.run(1, 1), 3);
        due("run(2, 0)", x.run(2, 0), 0);
        due("run(2, 1)", x.run(2, 1), 0);
        due("run(0, 2)", x.run(0, 2), HIDDEN);
        due("run(0, -1)", x.run(0, -1), HIDDEN);
        due("run(3, 0)", x.run(3, 0), HIDDEN);
        due("run(-1, 0)", x.run(-1, 0), HIDDEN);
        due("most(15)", x.most(15), 2);
        due("count(3)", x.count(3), 2);
        due("rule(6)", x.rule(6), 0);

        promise = 29;
        due("perform(1)", x.perform(1), 4);
        due("count(4)", x.count(4), 4);
        due("get(1)", x.get(1), NONE);
        statusDue(x, 0, 0, 0, 0);
        for (int i = 3; i >= 0; i--) {
            due("undo()", x.undo(), i);
        }
        due("perform(0)", x.perform(0), 6);
        due("rule(6)", x.rule(6), 1);
        due("perform(2)", x.perform(2), 1);
        due("perform(2)", x.perform(2), 0);
        due("perform(3)", x.perform(3), NONE);
        due("perform(-1)", x.perform(-1), NONE);
        statusDue(x, 0, 0, 0, 0);
        ZoneLedger y = new ZoneLedger();
        Checks.script(y, "c");
        due("perform(0) without a DRIVE", y.perform(0), NONE);
    }

    // ---- 30 to 43

    private static void foresights() {
        promise = 30;
        torn();
        promise = 31;
        orders();
        promise = 32;
        scores();
        promise = 33;
        costs();
        promise = 34;
        growths();
        promise = 35;
        bests();
        promise = 36;
        strains();
        promise = 37;
        freshes();
        promise = 38;
        bestStreams();
        promise = 39;
        pasts();
        promise = 40;
        elders();
        promise = 41;
        ZoneLedger x = Checks.drive("sz4c4;wk1;wk2;wk1;wk1");
        due("gone()", x.gone(), 0);
        x.clean();
        due("gone()", x.gone(), 2);
        due("gone() without a DRIVE", new ZoneLedger().gone(), NONE);
        promise = 42;
        fars();
        promise = 43;
        x = Checks.drive("sz4c4;wk1;wk2;wk3;wk4;wk5;wk6;wk7");
        due("shares(0, 999)", x.shares(0, 999), 570);
        due("shares(1, 999)", x.shares(1, 999), 428);
        due("shares(2, 999)", x.shares(2, 999), 0);
        due("shares(0, 0)", x.shares(0, 0), 0);
        due("shares(0, 1000)", x.shares(0, 1000), NONE);
        due("shares(0, -1)", x.shares(0, -1), NONE);
        due("shares(4, 1)", x.shares(4, 1), NONE);
        due("shares(-1, 1)", x.shares(-1, 1), NONE);
        due("shares(0, 9) of nothing", Checks.drive("s").shares(0, 9), 0);
    }

    private static void torn() {
        ZoneLedger x = Checks.drive("sz4c4;wk1v1;wk2v2;wk1v3;wk3v4");
        for (int k = 0; k < 4; k++) {
            due("torn(" + k + ", 0)", x.torn(k, 0), 0);
            due("torn(" + k + ", 1)", x.torn(k, 1), k);
            due("torn(" + k + ", 2)", x.torn(k, 2), k == 0 ? 3 : 2);
        }
        due("torn(4, 0)", x.torn(4, 0), NONE);
        due("torn(-1, 0)", x.torn(-1, 0), NONE);
        due("torn(0, 3)", x.torn(0, 3), NONE);
        due("torn(0, -1)", x.torn(0, -1), NONE);
        due("most(8)", x.most(8), 4);
        due("most(14)", x.most(14), 0);
        // One OPENED by hand is EMPTY behind the crash.
        x.open(3);
        due("torn(0, 2)", x.torn(0, 2), 3);
        x.clean();
        due("torn(0, 0), nothing to clean", x.torn(0, 0), NONE);
        x = Checks.drive("sz3c4r1;wk1;wk2;wk3;wk1");
        x.open(1);
        x.open(2);
        due("torn(0, 0), no room", x.torn(0, 0), NONE);
        due("torn(0, 0) without a DRIVE", new ZoneLedger().torn(0, 0), NONE);
    }

    private static void orders() {
        // Zone 0 has DEAD 1, zone 1 has 2 and is younger; zone 2 has none, zone 3 is not FULL.
        ZoneLedger x = Checks.drive("sz5c4;wk1;wk2;wk3;wk4;wk5;wk5;wk1;wk1;wk6;wk7;wk8;wk9;wk10");
        int[][] want = {{1, 0, NONE}, {1, 0, NONE}, {0, 1, NONE}, {1, 0, NONE}};
        for (int policy = 0; policy < 4; policy++) {
            for (int i = 0; i < 3; i++) {
                due("order(" + policy + ", " + i + ")", x.order(policy, i), want[policy][i]);
            }
        }
        due("order(4, 0)", x.order(4, 0), NONE);
        due("order(-1, 0)", x.order(-1, 0), NONE);
        due("order(0, -1)", x.order(0, -1), NONE);
        // Whether there is room or not; of like ones the lowest.
        x = Checks.drive("sz4c4r1o3;wk1;wk2;wk3;wk1;wk4;wk5;wk6;wk4");
        x.open(2);
        x.open(3);
        due("order(0, 0)", x.order(0, 0), 0);
        due("order(0, 1)", x.order(0, 1), 1);
        due("clean()", x.clean(), NONE);
    }

    private static void scores() {
        ZoneLedger x = Checks.drive("sz5c4;wk1;wk2;wk3;wk4;wk5;wk5;wk1");
        // Of zone 0: DEAD 1, LIVE 3, AGE 3.
        due("score(0, 0)", x.score(0, 0), 1);
        due("score(0, 1)", x.score(0, 1), 3000 / 7);
        due("score(0, 2)", x.score(0, 2), 3);
        due("score(0, 3)", x.score(0, 3), 20001);
        due("score(4, 0)", x.score(4, 0), 4);
        due("score(4, 1)", x.score(4, 1), 0);
        due("score(4, 2)", x.score(4, 2), 0);
        due("score(4, 3)", x.score(4, 3), 20004);
        due("score(5, 0)", x.score(5, 0), NONE);
        due("score(-1, 0)", x.score(-1, 0), NONE);
        due("score(0, 4)", x.score(0, 4), NONE);
        due("score(0, -1)", x.score(0, -1), NONE);
        x.clean();
        due("score(0, 3) with a RESET", x.score(0, 3), 19984);
    }

    private static void costs() {
        ZoneLedger x = Checks.drive("sz3c2r1;wk1;wk2;wk1;wk3");
        due("cost(4)", x.cost(4), 2);
        due("most(8)", x.most(8), 4);
        x.put(4, 4);
        due("cost(1)", x.cost(1), NONE);
        due("cost(-1)", x.cost(-1), NONE);
        due("cost(32)", x.cost(32), NONE);
        due("cost of two cleanings", Checks.drive("sz4c2r2m2;wk1;wk2;wk1;wk1").cost(1), 3);
        due("cost(0)", Checks.drive("s").cost(0), 1);
        due("cost(0) without a DRIVE", new ZoneLedger().cost(0), NONE);
    }

    private static void growths() {
        String drive = "sz5c4m2a3o2p3;wk1;wk2;wk3";
        for (int policy = 0; policy < 4; policy++) {
            for (int n = 1; n <= 200; n += 33) {
                long seed = 1234567L * n - policy;
                ZoneLedger x = Checks.drive(drive);
                ZoneLedger y = Checks.drive(drive);
                y.policy(policy);
                int before = appended(y);
                int puts = putDrawn(y, n, seed);
                due("growth(.., 0)", x.growth(policy, n, seed, 0), puts);
                due("growth(.., 1)", x.growth(policy, n, seed, 1), puts == 0 ? 0 : 1000 * (appended(y) - before) / puts);
                due("growth(.., 2)", x.growth(policy, n, seed, 2), spread(y));
                due("most(8)", x.most(8), 3);
                due("rule(6)", x.rule(6), 3);
            }
        }
        ZoneLedger x = Checks.drive(drive);
        due("growth(4, 1, 1, 0)", x.growth(4, 1, 1, 0), NONE);
        due("growth(-1, 1, 1, 0)", x.growth(-1, 1, 1, 0), NONE);
        due("growth(0, 0, 1, 0)", x.growth(0, 0, 1, 0), NONE);
        due("growth(0, 201, 1, 0)", x.growth(0, 201, 1, 0), NONE);
        due("growth(0, 1, 1, 3)", x.growth(0, 1, 1, 3), NONE);
        due("growth(0, 1, 1, -1)", x.growth(0, 1, 1, -1), NONE);
        ZoneLedger full = Checks.drive("sz3c2;wk1;wk2;wk3;wk4");
        due("growth of none, 0", full.growth(0, 5, 1, 0), 0);
        due("growth of none, 1", full.growth(0, 5, 1, 1), 0);
    }

    private static void bests() {
        for (int seed = 0; seed < 60; seed++) {
            ZoneLedger x = Checks.drive("sz" + (4 + seed % 3) + "c" + (4 + seed % 5) + "m" + (1 + seed % 3) + ";wk3;wk5");
            int n = 40 + 2 * seed;
            int want = 0;
            for (int policy = 1; policy < 4; policy++) {
                int puts = x.growth(policy, n, seed, 0);
                int most = x.growth(want, n, seed, 0);
                if (puts > most || puts == most && x.growth(policy, n, seed, 1) < x.growth(want, n, seed, 1)) {
                    want = policy;
                }
            }
            due("best(" + n + ", " + seed + ")", x.best(n, seed), want);
        }
        ZoneLedger x = Checks.drive("s");
        due("best(0, 1)", x.best(0, 1), NONE);
        due("best(201, 1)", x.best(201, 1), NONE);
        due("best(1, 1) without a DRIVE", new ZoneLedger().best(1, 1), NONE);
    }

    private static void strains() {
        for (int o = 1; o <= 3; o++) {
            for (int a = o; a <= 5; a++) {
                ZoneLedger x = Checks.drive("sz6c4o1a1m3p1");
                // Not so many that the LOG would lose any.
                ZoneLedger y = Checks.drive("sz6c4o" + o + "a" + a + "m3p1");
                putDrawn(y, 12, 99);
                int closed = 0;
                int finished = 0;
                for (int i = 0; i < y.count(3); i++) {
                    closed += y.log(i, 0) == 5 ? 1 : 0;
                    finished += y.log(i, 0) == 3 ? 1 : 0;
                }
                due("strain(" + o + ", " + a + ", .., 0)", x.strain(o, a, 12, 99, 0), closed);
                due("strain(" + o + ", " + a + ", .., 1)", x.strain(o, a, 12, 99, 1), finished);
                due("rule(2)", x.rule(2), 1);
            }
        }
        ZoneLedger x = Checks.drive("so2a3m2;wk1;wk1");
        due("strain(2, 2, 1, 1, 0)", x.strain(2, 2, 1, 1, 0) >= 0 ? 1 : 0, 1);
        due("strain(1, 8, 1, 1, 0), two are OPEN", x.strain(1, 8, 1, 1, 0), NONE);
        x.close(0);
        due("strain(1, 2, 1, 1, 0)", x.strain(1, 2, 1, 1, 0) >= 0 ? 1 : 0, 1);
        due("strain(1, 1, 1, 1, 0), two are ACTIVE", x.strain(1, 1, 1, 1, 0), NONE);
        due("strain(0, 8, 1, 1, 0)", x.strain(0, 8, 1, 1, 0), NONE);
        due("strain(9, 9, 1, 1, 0)", x.strain(9, 9, 1, 1, 0), NONE);
        due("strain(8, 8, 1, 1, 0)", x.strain(8, 8, 1, 1, 0), 0);
        due("strain(8, 9, 1, 1, 0)", x.strain(8, 9, 1, 1, 0), NONE);
        due("strain(3, 2, 1, 1, 0)", x.strain(3, 2, 1, 1, 0), NONE);
        due("strain(2, 2, 0, 1, 0)", x.strain(2, 2, 0, 1, 0), NONE);
        due("strain(2, 2, 201, 1, 0)", x.strain(2, 2, 201, 1, 0), NONE);
        due("strain(2, 2, 1, 1, 2)", x.strain(2, 2, 1, 1, 2), NONE);
        due("strain(2, 2, 1, 1, -1)", x.strain(2, 2, 1, 1, -1), NONE);
    }

    private static void freshes() {
        for (int streams = 1; streams <= 3; streams++) {
            ZoneLedger x = Checks.drive("sz5c3o2a2r2p1m2;wk1;wk2;wk3");
            x.finish(0);
            x.policy(2);
            ZoneLedger y = Checks.drive("sz5c3o2a2r2p2m" + streams);
            int puts = putDrawn(y, 60, -5);
            due("fresh(" + streams + ", .., 0)", x.fresh(streams, 60, -5, 0), puts);
            due("fresh(" + streams + ", .., 1)", x.fresh(streams, 60, -5, 1), 1000 * appended(y) / puts);
            due("fresh(" + streams + ", .., 2)", x.fresh(streams, 60, -5, 2), spread(y));
            due("most(8)", x.most(8), 3);
            due("rule(4)", x.rule(4), 2);
        }
        ZoneLedger x = Checks.drive("s");
        due("fresh(0, 1, 1, 0)", x.fresh(0, 1, 1, 0), NONE);
        due("fresh(4, 1, 1, 0)", x.fresh(4, 1, 1, 0), NONE);
        due("fresh(1, 0, 1, 0)", x.fresh(1, 0, 1, 0), NONE);
        due("fresh(1, 201, 1, 0)", x.fresh(1, 201, 1, 0), NONE);
        due("fresh(1, 1, 1, 3)", x.fresh(1, 1, 1, 3), NONE);
        due("fresh(1, 1, 1, -1)", x.fresh(1, 1, 1, -1), NONE);
        due("fresh(1, 1, 1, 0) without a DRIVE", new ZoneLedger().fresh(1, 1, 1, 0), NONE);
    }

    private static void bestStreams() {
        for (int seed = 0; seed < 60; seed++) {
            ZoneLedger x = Checks.drive("sz" + (5 + seed % 4) + "c" + (4 + seed % 5) + "p" + seed % 4 + ";wk3;wk5");
            int n = 40 + 2 * seed;
            int want = 1;
            for (int streams = 2; streams < 4; streams++) {
                int puts = x.fresh(streams, n, seed, 0);
                int most = x.fresh(want, n, seed, 0);
                if (puts > most || puts == most && x.fresh(streams, n, seed, 1) < x.fresh(want, n, seed, 1)) {
                    want = streams;
                }
            }
            due("bestStreams(" + n + ", " + seed + ")", x.bestStreams(n, seed), want);
        }
        ZoneLedger x = Checks.drive("s");
        due("bestStreams(0, 1)", x.bestStreams(0, 1), NONE);
        due("bestStreams(201, 1)", x.bestStreams(201, 1), NONE);
        due("bestStreams(1, 1) without a DRIVE", new ZoneLedger().bestStreams(1, 1), NONE);
    }

    private static void pasts() {
        // 1 lies at 0 and 2; moved, its LATEST lies in zone 1, the older ones are gone with zone 0.
        ZoneLedger x = Checks.drive("sz4c4;wk1;wk2;wk1;wk3;wk1");
        int[] want = {16, 2, 0, NONE};
        for (int i = 0; i < 4; i++) {
            due("past(1, " + i + ")", x.past(1, i), want[i]);
        }
        due("past(1, -1)", x.past(1, -1), NONE);
        due("past(4, 0)", x.past(4, 0), NONE);
        due("past(-1, 0)", x.past(-1, 0), NONE);
        due("past(32, 0)", x.past(32, 0), NONE);
        x.clean();
        due("past(1, 0)", x.past(1, 0), 16);
        due("past(1, 1)", x.past(1, 1), NONE);
        due("past(1, 0) without a DRIVE", new ZoneLedger().past(1, 0), NONE);
    }

    private static void elders() {
        ZoneLedger x = Checks.drive("sz4c4;wk1;wk2;wk3;wk1;wk3");
        x.delete(2);
        int[] want = {3, 16, 17, NONE};
        for (int i = 0; i < 4; i++) {
            due("elder(" + i + ")", x.elder(i), want[i]);
        }
        due("elder(-1)", x.elder(-1), NONE);
        x.clean();
        // The cleaning took what the DELETION was older than: it lives no more.
        due("elder(0)", x.elder(0), 18);
        due("elder(1)", x.elder(1), 16);
        due("elder(2)", x.elder(2), NONE);
        due("elder(0) without a DRIVE", new ZoneLedger().elder(0), NONE);
    }

    private static void fars() {
        due("far(0)", Checks.drive("s").far(0), 200);
        due("far(3) where all live", Checks.drive("sz3c2;wk1;wk2;wk3;wk4").far(3), 0);
        ZoneLedger x = Checks.drive("sz3c2r2m3;wk1");
        ZoneLedger y = Checks.drive("sz3c2r2m3;wk1");
        int times = 0;
        while (times < 200 && y.put(4, 0) >= 0) {
            times++;
        }
        due("far(4)", x.far(4), times);
        due("far(4) comes to an end", times < 200 ? 1 : 0, 1);
        due("most(8)", x.most(8), 1);
        due("far(-1)", x.far(-1), NONE);
        due("far(32)", x.far(32), NONE);
        due("far(0) without a DRIVE", new ZoneLedger().far(0), NONE);
    }

    // ---- 44 to 47

    private static void counts() {
        promise = 44;
        ZoneLedger x = Checks.drive("sz5c4;wk1;wk2;wk1;wk3;wk4");
        x.delete(2);
        x.open(3);
        x.close(1);
        int[] want = {0, 0, 0, 20, 8, 10, 1, 4, 6, 1, 3, 6, 0, 0, 0, 6, 1};
        for (int what = 0; what < 17; what++) {
            due("most(" + what + ")", x.most(what), want[what]);
        }
        x.crash();
        x.clean();
        x.put(4, 1);
        // 1 and 3 were moved behind 4 and the DELETION of 2; then 4 went to the next ZONE.
        int[] then = {1, 0, 1, 25, 4, 4, 2, 3, 5, 0, 3, 7, 2, 1, 1, 7, 4};
        for (int what = 0; what < 17; what++) {
            due("most(" + what + ")", x.most(what), then[what]);
        }
        due("most(17)", x.most(17), HIDDEN);
        due("most(-1)", x.most(-1), HIDDEN);
        ZoneLedger none = Checks.drive("s");
        due("most(0) of none", none.most(0), NONE);
        due("most(2) of none", none.most(2), NONE);
        due("most(16) of none", none.most(16), NONE);
        due("most(1) of none", none.most(1), 0);
        due("most(8) without a DRIVE", new ZoneLedger().most(8), HIDDEN);

        promise = 45;
        due("image() without a DRIVE", new ZoneLedger().image(), NONE);
        x = Checks.drive("sm2;wk1v1;wk2v2");
        due("image()", x.image(), 2);
        due("count(4)", x.count(4), 0);
        x.put(1, 5);
        x.policy(2);
        x.crash();
        x.put(99, 99);

        promise = 46;
        due("back() without an IMAGE", Checks.drive("s").back(), NONE);
        due("back()", x.back(), 2);
        due("get(1)", x.get(1), 1);
        due("rule(6)", x.rule(6), 0);
        due("stream(0)", x.stream(0), NONE);
        due("stream(1)", x.stream(1), 0);
        due("most(14)", x.most(14), 0);
        due("most(11)", x.most(11), 2);
        due("count(3)", x.count(3), 2);
        due("status(0)", x.status(0), 1);
        due("undo()", x.undo(), NONE);
        x.put(3, 3);
        due("image() instead", x.image(), 3);
        x.put(4, 4);
        due("back()", x.back(), 3);
        due("back() again", x.back(), 3);
        due("get(3)", x.get(3), 3);
        due("get(4)", x.get(4), NONE);
        Checks.feed(x, "s");
        x.text(0);
        due("back(), another DRIVE", x.back(), NONE);

        promise = 47;
        x = Checks.drive("sz7;wk1");
        Checks.script(x, "c;x");
        x.put(2, 2);
        Checks.feed(x, "abc");
        int[] counts = {7, 1, 3, 2, 1};
        for (int what = 0; what < 5; what++) {
            due("count(" + what + ")", x.count(what), counts[what]);
        }
        due("count(5)", x.count(5), HIDDEN);
        due("count(-1)", x.count(-1), HIDDEN);
    }
}
