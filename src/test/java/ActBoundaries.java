import java.util.function.Supplier;

/** Promises 14 to 22, and what the Terms say of what is done. */
final class ActBoundaries {
    private static final int NONE = Sentences.NONE;
    private static final int EMPTY = 0;
    private static final int OPEN = 1;
    private static final int CLOSED = 2;
    private static final int FULL = 3;

    private final Sentences doc;

    ActBoundaries(Sentences doc) {
        this.doc = doc;
    }

    void run() {
        closedForWant();
        openedByHandIsClosedFirst();
        pointersAndPlaces();
        zonesTaken();
        finishedForWant();
        cleanedAheadOfPuts();
        putsThatCannotBe();
        puts();
        deletes();
        zonesCleaned();
        roomToClean();
        cleans();
        crashes();
        crashAnswers();
        opens();
        closes();
        finishes();
        resets();
        policies();
    }

    private static ZoneLedger none() {
        return new ZoneLedger();
    }

    /** Three zones of two, all of which are full of what lives but one that is in reserve. */
    private static ZoneLedger allLive() {
        return Checks.drive("sz3c2;wk1;wk2;wk3;wk4");
    }

    private static Supplier<ZoneLedger> made(String text) {
        return () -> Checks.drive(text);
    }

    // ---- what is appended

    private void closedForWant() {
        doc.says(14, "To APPEND a BLOCK to a ZONE (not FULL): is it not OPEN: are as many OPEN as may be, the OPEN one to"
                + " which was APPENDED longest ago");
        // STREAM 2 has zone 0 (1, 3 .. 7), STREAM 0 zone 1 (2); 2 has NUMBER 3, and goes to STREAM 1 as 8.
        ZoneLedger x = Checks.drive("sz6c8o2a4m3;wk1;wk1;wk2;wk3;wk4;wk5;wk6");
        doc.statesDue(x, OPEN, OPEN, EMPTY);
        doc.due("put(2, 0)", x.put(2, 0), 32);
        doc.statesDue(x, OPEN, CLOSED, OPEN);
        doc.logDue(x, 1, 5, 1, 1);
        doc.due("put(7, 0) to zone 0, OPEN", x.put(7, 0), 6);
        doc.due("put(1, 0) to zone 2", x.put(1, 0), 33);
        doc.due("put(1, 0) to zone 1, CLOSED", x.put(1, 0), 17);
        doc.statesDue(x, CLOSED, OPEN, OPEN);
        // One more may be OPEN: none is CLOSED.
        x = Checks.drive("sz6c8o3a4m3;wk1;wk1;wk2;wk3;wk4;wk5;wk6");
        doc.due("put(2, 0)", x.put(2, 0), 32);
        doc.statesDue(x, OPEN, OPEN, OPEN);
        doc.logDue(x, 1, 0, 0, 5);
        // A CLOSED one goes on where it was; that as many are ACTIVE as may be is nothing to it.
        x = Checks.drive("sz6c8o1a1;wk1");
        x.close(0);
        doc.due("put(2, 0)", x.put(2, 0), 1);
        doc.statesDue(x, OPEN, EMPTY);
    }

    private void openedByHandIsClosedFirst() {
        doc.says(14, "(not since it was OPENED by hand: ahead of all others; of several the lowest) is CLOSED; then it is"
                + " OPEN.");
        ZoneLedger x = Checks.drive("sz6c8o3a6m3;wk1");
        x.open(5);
        x.open(3);
        doc.due("put(1, 0)", x.put(1, 0), 16);
        doc.statesDue(x, OPEN, OPEN, EMPTY, EMPTY, EMPTY, OPEN);
        doc.logDue(x, 1, 5, 3, 0);
        x.close(0);
        x.open(2);
        doc.due("put(2, 0)", x.put(2, 0), 1);
        doc.statesDue(x, OPEN, OPEN, EMPTY, EMPTY, EMPTY, OPEN);

        // Zone 0 got more than zone 1, and later, but was OPENED by hand since; 1 goes to STREAM 1.
        x = Checks.drive("sz6c8o2a6m3;wk1;wk1;wk9;wk10;wk11;wk12");
        x.close(0);
        x.open(0);
        doc.due("put(1, 0)", x.put(1, 0), 32);
        doc.statesDue(x, CLOSED, OPEN, OPEN);
        doc.logDue(x, 1, 5, 0, 5);
        // .. unless it got one since.
        x = Checks.drive("sz6c8o2a6m3;wk1;wk1;wk9;wk10;wk11;wk12");
        x.close(0);
        x.open(0);
        x.put(13, 0);
        doc.due("put(1, 0)", x.put(1, 0), 32);
        doc.statesDue(x, OPEN, CLOSED, OPEN);
    }

    private void pointersAndPlaces() {
        doc.says(14, "The BLOCK lies at its POINTER, that is one more; at CAPACITY it is FULL.");
        for (int capacity : new int[] {2, 3, 15, 16}) {
            ZoneLedger x = Checks.drive("sz3c" + capacity);
            for (int i = 0; i < capacity; i++) {
                doc.zoneDue(x, 0, 0, i == 0 ? EMPTY : OPEN);
                x.put(i, 100 + i);
                doc.zoneDue(x, 0, 1, i + 1);
                doc.due("block(0, " + i + ", 1)", x.block(0, i, 1), 100 + i);
            }
            doc.zoneDue(x, 0, 0, FULL);
            doc.due("put into the next", x.put(31, 0), 16);
        }

        doc.says(14, "The PLACE is 16 times the ZONE and the POINTER as it was.");
        // With 112 the drive is at its RESERVE; zone 0, in which nothing lives, is cleaned, and zone 7 is the next.
        ZoneLedger x = Checks.drive("sz8c16");
        for (int i = 0; i < 128; i++) {
            doc.due("put " + i, x.put(i % 32, 0), i);
        }
        x = Checks.drive("sz8c2");
        for (int i = 0; i < 14; i++) {
            doc.due("put " + i, x.put(i, 0), 16 * (i / 2) + i % 2);
        }
    }

    private void zonesTaken() {
        doc.says(14, "To APPEND to a STREAM: has it no ZONE, or a FULL one, it takes the EMPTY one with the fewest RESETS"
                + " (of several the lowest)");
        ZoneLedger x = Checks.drive("sz4c2");
        doc.due("put(1, 0), none has RESETS", x.put(1, 0), 0);
        doc.due("put(1, 0), it has a ZONE", x.put(1, 0), 1);
        doc.due("put(1, 0), it has a FULL one", x.put(1, 0), 16);
        x = Checks.drive("sz4c2");
        for (int zone : new int[] {0, 1, 2, 3, 0, 1, 3}) {
            x.open(zone);
            x.reset(zone);
        }
        doc.due("put(1, 0), RESETS are 2 2 1 2", x.put(1, 0), 32);
        x.finish(2);
        doc.due("put(1, 0), RESETS are 2 2 . 2", x.put(1, 0), 0);
        x = Checks.drive("sz4c2");
        x.open(0);
        doc.due("put(1, 0), zone 0 is OPEN", x.put(1, 0), 16);
    }

    private void finishedForWant() {
        doc.says(14, "are as many ACTIVE as may be, first the lowest ACTIVE ZONE that is no STREAM's is FINISHED");
        ZoneLedger x = Checks.drive("sz6c4o2a2");
        x.open(3);
        x.open(2);
        doc.due("put(1, 0)", x.put(1, 0), 0);
        doc.statesDue(x, OPEN, EMPTY, FULL, OPEN);
        doc.logDue(x, 0, 0, 0, 0);
        doc.logDue(x, 1, 3, 2, 0);
        // One more may be ACTIVE: none is FINISHED, but one is CLOSED.
        x = Checks.drive("sz6c4o2a3");
        x.open(3);
        x.open(2);
        doc.due("put(1, 0)", x.put(1, 0), 0);
        doc.statesDue(x, OPEN, EMPTY, EMPTY, OPEN);
        doc.logDue(x, 1, 5, 2, 0);
        // One that is no STREAM's goes ahead of those that are, though it stands behind them and has less.
        x = Checks.drive("sz6c4o2a2m2;wk1;wk2");
        x.open(4);
        doc.due("put(1, 0)", x.put(1, 0), 16);
        doc.statesDue(x, OPEN, OPEN, EMPTY, EMPTY, FULL);

        doc.says(14, "is there none, that (of another STREAM) with the greatest POINTER (of several the lowest). Then to its"
                + " ZONE.");
        // Zone 0 is STREAM 2's, zone 1 STREAM 0's; at last 1 has DISTANCE 5.
        x = Checks.drive("sz8c8o2a2m3;wk1;wk1;wk1;wk2;wk3;wk4;wk5");
        doc.due("put(1, 0), POINTERS are 5 2", x.put(1, 0), 32);
        doc.statesDue(x, FULL, OPEN, OPEN);
        doc.logDue(x, 1, 3, 0, 5);
        x = Checks.drive("sz8c8o2a2m3;wk1;wk1;wk1;wk1;wk1;wk1;wk2;wk3;wk4;wk5");
        doc.due("put(1, 0), POINTERS are 5 5", x.put(1, 0), 32);
        doc.statesDue(x, FULL, OPEN, OPEN);
        x = Checks.drive("sz8c8o2a2m3;wk1;wk1;wk1;wk1;wk1;wk1;wk1;wk2;wk3;wk4;wk5");
        doc.due("put(1, 0), POINTERS are 5 6", x.put(1, 0), 32);
        doc.statesDue(x, OPEN, FULL, OPEN);
        doc.logDue(x, 1, 3, 1, 6);
        x = Checks.drive("sz8c8o2a3m3;wk1;wk1;wk1;wk2;wk3;wk4;wk5");
        doc.due("put(1, 0), three may be ACTIVE", x.put(1, 0), 32);
        doc.statesDue(x, OPEN, CLOSED, OPEN);
    }

    // ---- 14 and 15

    private void cleanedAheadOfPuts() {
        doc.says(14, "As long as that has no ZONE, or a FULL one, and RESERVE or fewer are EMPTY, it is CLEANED");
        ZoneLedger x = Checks.drive("sz3c2;wk1;wk1");
        cleaningsDue(x, "its ZONE is FULL, two are EMPTY", 1, 16, 0);
        cleaningsDue(x, "one is EMPTY, its ZONE is not FULL", 1, 17, 0);
        cleaningsDue(x, "its ZONE is FULL, one is EMPTY", 1, 32, 1);
        x = Checks.drive("sz4c2r2;wk1;wk1");
        cleaningsDue(x, "RESERVE 2, three are EMPTY", 1, 16, 0);
        cleaningsDue(x, "its ZONE is not FULL", 1, 17, 0);
        cleaningsDue(x, "RESERVE 2, two are EMPTY", 1, 32, 1);
        // Zone 0 has 1 and 2, zone 1 has 1 and 1: for STREAM 0 both are cleaned till three are EMPTY.
        x = Checks.drive("sz4c2r2m2;wk1;wk2;wk1;wk1");
        cleaningsDue(x, "as long as it must be", 1, 48, 2);
        // It has no ZONE: a CRASH took the FULL one.
        x = Checks.drive("sz3c2;wk1;wk1;wk1;wk1");
        x.crash();
        doc.due("stream(0)", x.stream(0), NONE);
        cleaningsDue(x, "it has no ZONE", 1, 32, 1);
        // None is EMPTY, but its ZONE is not FULL.
        x = Checks.drive("sz3c2o3a3;wk1;wk2;wk3");
        x.open(2);
        cleaningsDue(x, "none is EMPTY, its ZONE is not FULL", 4, 17, 0);

        doc.says(14, "Then it is APPENDED to the STREAM with the next NUMBER (1 first).");
        x = Checks.drive("s");
        x.put(5, 0);
        doc.due("key(5, 1)", x.key(5, 1), 1);
        x.put(6, 0);
        doc.due("key(6, 1)", x.key(6, 1), 2);
        x.delete(5);
        doc.due("key(5, 1)", x.key(5, 1), 3);
        x.put(6, 1000);
        x.put(6, 0);
        doc.due("key(6, 1), nothing is lost by a refused one", x.key(6, 1), 4);
    }

    private void cleaningsDue(ZoneLedger x, String how, int key, int place, int cleanings) {
        int before = x.most(13);
        doc.due("put(" + key + ", 0), " + how, x.put(key, 0), place);
        doc.due("cleanings, " + how, x.most(13) - before, cleanings);
    }

    private void putsThatCannotBe() {
        doc.says(14, "if that can't be, the PUT can't be, either (nothing is done then).");
        // A first cleaning could be, the second not: there is nothing FULL then.
        Supplier<ZoneLedger> halfWay = () -> {
            ZoneLedger x = Checks.drive("sz3c2r2m3;wk5v7");
            x.finish(0);
            return x;
        };
        doc.refused("put that fails half way", halfWay, x -> doc.due("put(5, 8)", x.put(5, 8), NONE), 3);
        doc.refused("delete that fails half way", halfWay, x -> doc.due("delete(5)", x.delete(5), NONE), 3);
        doc.refused("put where all lives", ActBoundaries::allLive, x -> doc.due("put(5, 8)", x.put(5, 8), NONE), 3);
        // It could be cleaned, if there were room: zone 2 is OPEN by hand.
        Supplier<ZoneLedger> noRoom = () -> {
            ZoneLedger x = Checks.drive("sz3c2;wk1;wk2;wk1;wk3");
            x.open(2);
            return x;
        };
        doc.refused("put without room", noRoom, x -> doc.due("put(5, 8)", x.put(5, 8), NONE), 3);
    }

    private void puts() {
        doc.says(14, "PUT: the PLACE.");
        ZoneLedger x = Checks.drive("sz3c2");
        doc.due("put(0, 0)", x.put(0, 0), 0);
        doc.due("put(31, 999)", x.put(31, 999), 1);
        doc.due("put(0, 999)", x.put(0, 999), 16);

        doc.says(14, "NONE: no DRIVE, KEY (STATUS 0), VALUE (1), it can't be (3).");
        Supplier<ZoneLedger> some = made("sz3c2;wk1;wk2;wk1");
        int[] badKeys = {-1, 32, Integer.MIN_VALUE, Integer.MAX_VALUE};
        for (int key : badKeys) {
            doc.refused("put(" + key + ", 0)", some, y -> doc.due("put", y.put(key, 0), NONE), 0);
            doc.refused("put(" + key + ", 1000)", some, y -> doc.due("put", y.put(key, 1000), NONE), 0);
            doc.refused("put(" + key + ", -1)", some, y -> doc.due("put", y.put(key, -1), NONE), 0);
        }
        int[] badValues = {-1, 1000, -2, Integer.MIN_VALUE, Integer.MAX_VALUE};
        for (int value : badValues) {
            doc.refused("put(1, " + value + ")", some, y -> doc.due("put", y.put(1, value), NONE), 1);
            doc.refused("put(9, " + value + ") where it can't be", ActBoundaries::allLive,
                    y -> doc.due("put", y.put(9, value), NONE), 1);
        }
        doc.refused("put(0, 0) without a DRIVE", ActBoundaries::none, y -> doc.due("put", y.put(0, 0), NONE), 0);
        doc.refused("put(0, -1) without a DRIVE", ActBoundaries::none, y -> doc.due("put", y.put(0, -1), NONE), 0);
        doc.refused("put(9, 0)", ActBoundaries::allLive, y -> doc.due("put", y.put(9, 0), NONE), 3);
    }

    private void deletes() {
        doc.says(15, "To PUT (a DELETE likewise, if the KEY has a VALUE)");
        ZoneLedger x = Checks.drive("sz4c4m2;wk1v5;wk2v6");
        // DISTANCE 2: to STREAM 0, as a PUT of it would be.
        doc.due("delete(1)", x.delete(1), 16);
        doc.due("block(1, 0, 1)", x.block(1, 0, 1), NONE);
        doc.due("block(1, 0, 2)", x.block(1, 0, 2), 3);
        doc.due("most(11)", x.most(11), 3);
        doc.due("delete(1), it has none", x.delete(1), NONE);
        x = Checks.drive("sz3c2;wk1;wk1;wk1;wk1");
        doc.due("delete(1) cleans ahead of it", x.delete(1), 32);
        doc.due("most(13)", x.most(13), 1);

        doc.says(15, "DELETE: the PLACE of the DELETION.");
        x = Checks.drive("sz3c2;wk0;wk31");
        doc.due("delete(0)", x.delete(0), 16);
        doc.due("delete(31)", x.delete(31), 17);
        doc.due("get(31)", x.get(31), NONE);

        doc.says(15, "NONE: no DRIVE, KEY (STATUS 0), it has no VALUE (2), it can't be (3).");
        Supplier<ZoneLedger> some = made("sz3c2;wk1;wk2;wk1");
        int[] badKeys = {-1, 32, Integer.MIN_VALUE, Integer.MAX_VALUE};
        for (int key : badKeys) {
            doc.refused("delete(" + key + ")", some, y -> doc.due("delete", y.delete(key), NONE), 0);
        }
        doc.refused("delete(0) without a DRIVE", ActBoundaries::none, y -> doc.due("delete", y.delete(0), NONE), 0);
        doc.refused("delete(3), never PUT", some, y -> doc.due("delete", y.delete(3), NONE), 2);
        doc.refused("delete(9), none, where it can't be", ActBoundaries::allLive,
                y -> doc.due("delete", y.delete(9), NONE), 2);
        doc.refused("delete(4)", ActBoundaries::allLive, y -> doc.due("delete", y.delete(4), NONE), 3);
        Supplier<ZoneLedger> deleted = () -> {
            ZoneLedger y = Checks.drive("sz3c2;wk1");
            y.delete(1);
            return y;
        };
        doc.refused("delete(1) once more", deleted, y -> doc.due("delete", y.delete(1), NONE), 2);
    }

    // ---- 16

    private void zonesCleaned() {
        doc.says(16, "To CLEAN: of all FULL ZONES with DEAD above 0 that with the greatest SCORE (of several the lowest) is"
                + " taken");
        ZoneLedger x = Checks.drive("sz4c2;wk1;wk2;wk3;wk3");
        // Zone 0 is FULL of what lives, zone 1 has DEAD 1.
        doc.due("clean()", x.clean(), 1);
        doc.zoneDue(x, 0, 4, 0);
        doc.zoneDue(x, 1, 4, 1);
        doc.due("clean(), none has DEAD", x.clean(), NONE);
        x = Checks.drive("sz4c4;wk1;wk1");
        doc.due("clean(), OPEN with DEAD", x.clean(), NONE);
        x.close(0);
        doc.due("clean(), CLOSED with DEAD", x.clean(), NONE);
        x.finish(0);
        doc.due("clean(), FULL", x.clean(), 1);
        // Zones 0 and 1 have DEAD 1 each.
        x = Checks.drive("sz5c2;wk1;wk2;wk3;wk4;wk1;wk3");
        doc.due("clean()", x.clean(), 1);
        doc.zoneDue(x, 0, 4, 1);
        doc.zoneDue(x, 1, 4, 0);
        // Zone 0 has DEAD 1 and AGE 4, zone 1 has DEAD 2 and AGE 0.
        int[] taken = {1, 0, 0, 1};
        for (int policy = 0; policy < 4; policy++) {
            x = Checks.drive("sz5c4p" + policy + ";wk1;wk2;wk3;wk4;wk5;wk5;wk5;wk1");
            x.clean();
            doc.zoneDue(x, taken[policy], 4, 1);
            doc.zoneDue(x, 1 - taken[policy], 4, 0);
        }

        doc.says(16, "its LIVE BLOCKS, in order, are APPENDED, as they are (NUMBER, too), to the last STREAM, each MOVED;"
                + " then it is RESET.");
        // Zone 0, of STREAM 1, has 7 8 9 7; zone 1, of STREAM 0, has nothing yet.
        x = Checks.drive("sz4c4m2;wk7v1;wk8v2;wk9v3;wk6v4");
        x.put(7, 5);
        doc.due("stream(0)", x.stream(0), 1);
        doc.due("clean()", x.clean(), 3);
        int[][] want = {{8, 2, 2}, {9, 3, 3}, {6, 4, 4}};
        for (int i = 0; i < 3; i++) {
            for (int what = 0; what < 3; what++) {
                doc.due("block(2, " + i + ", " + what + ")", x.block(2, i, what), want[i][what]);
            }
            doc.logDue(x, 3 - i, 1, 2, 32 + i);
        }
        doc.logDue(x, 0, 2, 0, 1);
        doc.due("stream(1)", x.stream(1), 2);
        doc.due("most(12)", x.most(12), 3);
        doc.due("most(15)", x.most(15), 5);
        doc.statesDue(x, EMPTY, OPEN, OPEN, EMPTY);
    }

    private void roomToClean() {
        doc.says(16, "It can't be, if there is no such ZONE, or its LIVE ones are more than the room (CAPACITY less POINTER of"
                + " the last STREAM's ZONE, if that is not FULL, and CAPACITY of each EMPTY one, of ACTIVE ones no"
                + " others).");
        doc.due("clean() of nothing", Checks.drive("s").clean(), NONE);
        // Zone 0 has 3 that live; zone 1, the STREAM's, has room for 3, then for 2; zone 2 is OPEN by hand.
        ZoneLedger x = Checks.drive("sz3c4a8o8;wk1;wk2;wk3;wk1;wk9");
        x.open(2);
        doc.due("clean(), room for 3", x.clean(), 3);
        doc.zoneDue(x, 1, 0, FULL);
        x = Checks.drive("sz3c4a8o8;wk1;wk2;wk3;wk1;wk9;wk10");
        x.open(2);
        doc.due("clean(), room for 2", x.clean(), NONE);
        doc.statusDue(x, 0, 0, 0, 1);
        x.close(2);
        doc.due("clean(), room for 2 and 4", x.clean(), 3);
        doc.due("stream(0)", x.stream(0), 2);
        // The last STREAM's is FULL: no room, but for one that lives there needs to be none.
        x = Checks.drive("sz3c2;wk1;wk1;wk1;wk1");
        x.open(2);
        doc.due("clean(), nothing lives in it", x.clean(), 0);
        x.open(0);
        doc.due("clean(), one lives, no room", x.clean(), NONE);
        doc.statusDue(x, 0, 0, 0, 1);
        x.close(0);
        doc.due("clean(), one is EMPTY", x.clean(), 1);
        // Room in the ZONE of STREAM 0 is none for what is moved.
        x = Checks.drive("sz3c2m2o3a3;wk1;wk2;wk1");
        x.open(2);
        doc.due("clean(), room in STREAM 0 alone", x.clean(), NONE);
        doc.statusDue(x, 0, 0, 0, 1);
    }

    private void cleans() {
        doc.says(16, "CLEAN: how many are MOVED.");
        doc.due("clean(), none", cleanable("wk1;wk1;wk1").clean(), 0);
        doc.due("clean(), one", cleanable("wk1;wk2;wk1").clean(), 1);
        ZoneLedger x = Checks.drive("sz3c16;wk1;" + "wk2;".repeat(14) + "wk3");
        doc.due("clean() of 16", x.clean(), 3);
        x = Checks.drive("sz3c4;wk1;wk2");
        x.delete(1);
        x.finish(0);
        doc.due("clean(), a DELETION, too", x.clean(), 2);

        doc.says(16, "NONE: no DRIVE (STATUS 0), no such ZONE (2), no room (3).");
        doc.refused("clean() without a DRIVE", ActBoundaries::none, y -> doc.due("clean", y.clean(), NONE), 0);
        doc.refused("clean() of nothing", made("s"), y -> doc.due("clean", y.clean(), NONE), 2);
        doc.refused("clean() where all lives", ActBoundaries::allLive, y -> doc.due("clean", y.clean(), NONE), 2);
        Supplier<ZoneLedger> noRoom = () -> {
            ZoneLedger y = Checks.drive("sz3c4a8o8;wk1;wk2;wk3;wk1;wk9;wk10");
            y.open(2);
            return y;
        };
        doc.refused("clean() without room", noRoom, y -> doc.due("clean", y.clean(), NONE), 3);
    }

    private static ZoneLedger cleanable(String writes) {
        return Checks.drive("sz4c2;" + writes);
    }

    // ---- 17

    private void crashes() {
        doc.says(17, "To CRASH: OPEN ones are CLOSED; STREAMS have no ZONE; the NUMBER given latest is the greatest that is"
                + " there (0 without BLOCKS); then ACTIVE ZONES, numbers rising, are the ZONES of STREAMS 0, 1 .., as far"
                + " as these go.");
        // Zone 0 is STREAM 2's, zone 1 STREAM 0's; zone 4 is OPEN by hand, zone 3 FULL.
        ZoneLedger x = Checks.drive("sz6c4o4a4m3;wk1;wk1");
        x.open(3);
        x.finish(3);
        x.open(4);
        x.crash();
        doc.statesDue(x, CLOSED, CLOSED, EMPTY, FULL, EMPTY, EMPTY);
        doc.due("stream(0)", x.stream(0), 0);
        doc.due("stream(1)", x.stream(1), 1);
        doc.due("stream(2), as far as these go", x.stream(2), NONE);
        doc.due("most(15)", x.most(15), 2);
        doc.due("put(1, 0), DISTANCE 1, to what is STREAM 0's now", x.put(1, 0), 1);
        // A FULL one is no STREAM's behind it.
        x = Checks.drive("sz3c2;wk1;wk2");
        x.crash();
        doc.due("stream(0), it was FULL", x.stream(0), NONE);
        // The greatest is that of KEY 0, that of KEY 31; of eight ZONES.
        x = Checks.drive("sz8c2;wk1;wk31;wk0");
        x.crash();
        doc.due("most(15), of KEY 0", x.most(15), 3);
        doc.due("stream(0)", x.stream(0), 1);
        x.put(31, 0);
        x.crash();
        doc.due("most(15), of KEY 31", x.most(15), 4);
        x = Checks.drive("sz8c2a8o8;wk1;wk2;wk3;wk4;wk5;wk6;wk7;wk8;wk9;wk10;wk11;wk12;wk13");
        x.open(7);
        x.crash();
        doc.statesDue(x, FULL, FULL, FULL, FULL, FULL, FULL, CLOSED, EMPTY);
        doc.due("stream(0)", x.stream(0), 6);
        // The greatest NUMBER there is a DEAD one's: of the DELETION of 2, of which nothing older is there.
        x = Checks.drive("sz4c2;wk1;wk2");
        x.put(1, 5);
        x.delete(2);
        doc.due("clean()", x.clean(), 0);
        doc.due("block(1, 1, 3)", x.block(1, 1, 3), 0);
        x.crash();
        doc.due("most(15)", x.most(15), 4);
        numberFalls();
    }

    private void numberFalls() {
        // 6 is PUT as 3 and DELETED as 4; the DELETION alone is moved, and goes with its ZONE.
        ZoneLedger x = Checks.drive("sz5c2;wk5;wk7");
        x.put(6, 1);
        x.delete(6);
        doc.due("clean()", x.clean(), 1);
        doc.due("reset(2)", x.reset(2), 1);
        doc.due("most(15)", x.most(15), 4);
        doc.due("crash()", x.crash(), 2);
        doc.due("most(15) behind it", x.most(15), 2);
        x.put(9, 1);
        doc.due("key(9, 1)", x.key(9, 1), 3);
        // Nothing at all is left.
        x = Checks.drive("sz4c2;wk1");
        x.delete(1);
        x.clean();
        x.reset(1);
        doc.due("most(15)", x.most(15), 2);
        doc.due("crash()", x.crash(), 0);
        doc.due("most(15) without BLOCKS", x.most(15), 0);
        x.put(3, 3);
        doc.due("key(3, 1)", x.key(3, 1), 1);
    }

    private void crashAnswers() {
        doc.says(17, "CRASH: how many KEYS have a VALUE.");
        ZoneLedger x = Checks.drive("wk0;wk31;wk5;wk5");
        doc.due("crash()", x.crash(), 3);
        x.delete(5);
        doc.due("crash(), one is DELETED", x.crash(), 2);
        doc.due("crash() of none", Checks.drive("s").crash(), 0);
        doc.due("most(14)", x.most(14), 2);
        doc.says(17, "NONE: no DRIVE (STATUS 0).");
        doc.refused("crash() without a DRIVE", ActBoundaries::none, y -> doc.due("crash", y.crash(), NONE), 0);
    }

    // ---- 18 to 22

    private void opens() {
        doc.says(18, "OPEN a ZONE: how many are OPEN then.");
        ZoneLedger x = Checks.drive("sz8o8a8");
        for (int zone = 7; zone >= 0; zone--) {
            doc.due("open(" + zone + ")", x.open(zone), 8 - zone);
        }
        x = Checks.drive("wk1");
        doc.due("open(3), one is OPEN", x.open(3), 2);
        x.close(0);
        doc.due("open(0), CLOSED", x.open(0), 2);

        doc.says(18, "NONE: no such ZONE (STATUS 0), it is OPEN, FULL (2), as many are OPEN, or, if it is EMPTY, ACTIVE, as"
                + " may be (3).");
        Supplier<ZoneLedger> two = made("sz4c4o2a2m2;wk1;wk1");
        int[] badZones = {-1, 4, Integer.MIN_VALUE, Integer.MAX_VALUE};
        for (int zone : badZones) {
            doc.refused("open(" + zone + ")", two, y -> doc.due("open", y.open(zone), NONE), 0);
        }
        doc.refused("open(0) without a DRIVE", ActBoundaries::none, y -> doc.due("open", y.open(0), NONE), 0);
        doc.refused("open(0), OPEN, as many as may be", two, y -> doc.due("open", y.open(0), NONE), 2);
        doc.refused("open(2), two are OPEN", two, y -> doc.due("open", y.open(2), NONE), 3);
        doc.refused("open(0), FULL", made("sz4c2;wk1;wk2"), y -> doc.due("open", y.open(0), NONE), 2);
        doc.refused("open(0), FULL, as many OPEN as may be", ActBoundaries::fullAndOpen,
                y -> doc.due("open", y.open(0), NONE), 2);
        doc.refused("open(2), EMPTY, two are ACTIVE", ActBoundaries::twoClosed, y -> doc.due("open", y.open(2), NONE), 3);
        doc.due("open(0), CLOSED, two are ACTIVE", twoClosed().open(0), 1);
        doc.refused("open(0), CLOSED, as many OPEN as may be", ActBoundaries::oneClosed,
                y -> doc.due("open", y.open(0), NONE), 3);
        doc.due("open(2), one more may be OPEN", Checks.drive("sz4c4o3a3m2;wk1;wk1").open(2), 3);
    }

    private static ZoneLedger fullAndOpen() {
        ZoneLedger x = Checks.drive("sz4c2o1a2;wk1;wk2");
        x.open(3);
        return x;
    }

    private static ZoneLedger twoClosed() {
        ZoneLedger x = Checks.drive("sz4c4o2a2m2;wk1;wk1");
        x.close(0);
        x.close(1);
        return x;
    }

    private static ZoneLedger oneClosed() {
        ZoneLedger x = Checks.drive("sz4c4o1a3;wk1");
        x.close(0);
        x.open(3);
        return x;
    }

    private void closes() {
        doc.says(19, "To CLOSE: it is CLOSED, with POINTER 0 EMPTY.");
        ZoneLedger x = Checks.drive("wk1");
        x.open(2);
        x.close(0);
        x.close(2);
        doc.statesDue(x, CLOSED, EMPTY, EMPTY);
        doc.due("stream(0)", x.stream(0), 0);
        doc.zoneDue(x, 2, 4, 0);

        doc.says(19, "CLOSE a ZONE (with POINTER 0 it is EMPTY): how many are OPEN then.");
        x = Checks.drive("sz5o3a3;wk1");
        x.open(2);
        x.open(4);
        doc.due("close(2)", x.close(2), 2);
        doc.zoneDue(x, 2, 0, EMPTY);
        doc.due("close(0)", x.close(0), 1);
        doc.zoneDue(x, 0, 0, CLOSED);
        doc.due("close(4)", x.close(4), 0);

        doc.says(19, "NONE: no such ZONE (STATUS 0), it is not OPEN (2).");
        int[] badZones = {-1, 4, Integer.MIN_VALUE, Integer.MAX_VALUE};
        for (int zone : badZones) {
            doc.refused("close(" + zone + ")", made("wk1"), y -> doc.due("close", y.close(zone), NONE), 0);
        }
        doc.refused("close(0) without a DRIVE", ActBoundaries::none, y -> doc.due("close", y.close(0), NONE), 0);
        doc.refused("close(1), EMPTY", made("wk1"), y -> doc.due("close", y.close(1), NONE), 2);
        doc.refused("close(0), CLOSED", ActBoundaries::twoClosed, y -> doc.due("close", y.close(0), NONE), 2);
        doc.refused("close(0), FULL", ActBoundaries::allLive, y -> doc.due("close", y.close(0), NONE), 2);
    }

    private void finishes() {
        doc.says(20, "To FINISH: it is FULL (DEAD is what was never written, too).");
        ZoneLedger x = Checks.drive("wk1;wk2");
        x.finish(0);
        doc.zoneDue(x, 0, 0, FULL);
        doc.zoneDue(x, 0, 1, 2);
        doc.zoneDue(x, 0, 2, 2);
        doc.zoneDue(x, 0, 3, 6);
        doc.due("stream(0)", x.stream(0), 0);
        doc.due("order(0, 0)", x.order(0, 0), 0);

        doc.says(20, "FINISH a ZONE: its POINTER.");
        doc.due("finish(0), OPEN", Checks.drive("wk1;wk2").finish(0), 2);
        doc.due("finish(0), CLOSED", twoClosed().finish(0), 1);
        x.open(3);
        doc.due("finish(3), POINTER 0", x.finish(3), 0);
        doc.zoneDue(x, 3, 0, FULL);
        doc.zoneDue(x, 3, 3, 8);

        doc.says(20, "NONE: no such ZONE (STATUS 0), it is not ACTIVE (2).");
        int[] badZones = {-1, 4, Integer.MIN_VALUE, Integer.MAX_VALUE};
        for (int zone : badZones) {
            doc.refused("finish(" + zone + ")", made("wk1"), y -> doc.due("finish", y.finish(zone), NONE), 0);
        }
        doc.refused("finish(0) without a DRIVE", ActBoundaries::none, y -> doc.due("finish", y.finish(0), NONE), 0);
        doc.refused("finish(1), EMPTY", made("wk1"), y -> doc.due("finish", y.finish(1), NONE), 2);
        doc.refused("finish(0), FULL", ActBoundaries::allLive, y -> doc.due("finish", y.finish(0), NONE), 2);
    }

    private void resets() {
        doc.says(21, "To RESET: it is EMPTY without BLOCKS, RESETS one more (a STREAM whose it was has none).");
        ZoneLedger x = Checks.drive("sz4c2;wk1;wk1;wk1");
        x.reset(0);
        doc.zoneDue(x, 0, 0, EMPTY);
        doc.zoneDue(x, 0, 1, 0);
        doc.zoneDue(x, 0, 4, 1);
        doc.due("key(1, 3)", x.key(1, 3), 1);
        doc.due("stream(0), another's", x.stream(0), 1);
        // The DELETION of 1 is all that is in the STREAM's ZONE, and nothing older is there.
        x = Checks.drive("sz4c2;wk1");
        x.delete(1);
        x.clean();
        doc.due("stream(0)", x.stream(0), 1);
        x.reset(1);
        doc.due("stream(0), whose it was", x.stream(0), NONE);
        doc.due("key(1, 3)", x.key(1, 3), 0);

        doc.says(21, "RESET a ZONE: its RESETS then.");
        x = Checks.drive("s");
        for (int i = 1; i <= 3; i++) {
            x.open(2);
            doc.due("reset(2)", x.reset(2), i);
        }
        x = Checks.drive("sz4c2;wk1;wk1;wk1");
        doc.due("reset(0), FULL", x.reset(0), 1);
        x = Checks.drive("sz4c2m2;wk1;wk1");
        x.close(0);
        doc.due("reset(0), CLOSED", x.reset(0), 1);
        doc.due("stream(1)", x.stream(1), NONE);

        doc.says(21, "NONE: no such ZONE (STATUS 0), it is EMPTY (2), it has LIVE BLOCKS (3).");
        int[] badZones = {-1, 4, Integer.MIN_VALUE, Integer.MAX_VALUE};
        for (int zone : badZones) {
            doc.refused("reset(" + zone + ")", made("wk1"), y -> doc.due("reset", y.reset(zone), NONE), 0);
        }
        doc.refused("reset(0) without a DRIVE", ActBoundaries::none, y -> doc.due("reset", y.reset(0), NONE), 0);
        doc.refused("reset(1), EMPTY", made("wk1"), y -> doc.due("reset", y.reset(1), NONE), 2);
        doc.refused("reset(0), OPEN with a LIVE one", made("wk1"), y -> doc.due("reset", y.reset(0), NONE), 3);
        doc.refused("reset(0), FULL, one of two LIVE", made("sz4c2;wk1;wk2;wk1"),
                y -> doc.due("reset", y.reset(0), NONE), 3);
        Supplier<ZoneLedger> deleted = () -> {
            ZoneLedger y = Checks.drive("sz4c2;wk1");
            y.delete(1);
            return y;
        };
        doc.refused("reset(0), a LIVE DELETION", deleted, y -> doc.due("reset", y.reset(0), NONE), 3);
    }

    private void policies() {
        doc.says(22, "POLICY is set: what it was.");
        ZoneLedger x = Checks.drive("sp1");
        doc.due("policy(0)", x.policy(0), 1);
        doc.due("policy(3)", x.policy(3), 0);
        doc.due("policy(2)", x.policy(2), 3);
        doc.due("rule(6)", x.rule(6), 2);

        doc.says(22, "NONE: no DRIVE (STATUS 0), out of bounds (1), it is so (2).");
        int[] bad = {-1, 4, Integer.MIN_VALUE, Integer.MAX_VALUE};
        for (int policy : bad) {
            doc.refused("policy(" + policy + ")", made("sp1"), y -> doc.due("policy", y.policy(policy), NONE), 1);
            doc.refused("policy(" + policy + ") without a DRIVE", ActBoundaries::none,
                    y -> doc.due("policy", y.policy(policy), NONE), 0);
        }
        doc.refused("policy(0) without a DRIVE", ActBoundaries::none, y -> doc.due("policy", y.policy(0), NONE), 0);
        for (int now = 0; now < 4; now++) {
            int policy = now;
            doc.refused("policy(" + policy + ") that is so", made("sp" + policy),
                    y -> doc.due("policy", y.policy(policy), NONE), 2);
        }
    }
}
