import java.util.function.Supplier;

/** Promises 44 to 47, and what the Terms say of IMAGES. */
final class CountBoundaries {
    private static final int NONE = Sentences.NONE;
    private static final int HIDDEN = Sentences.HIDDEN;

    private final Sentences doc;

    CountBoundaries(Sentences doc) {
        this.doc = doc;
    }

    void run() {
        mostDead();
        mostResets();
        oldest();
        bits();
        amounts();
        tallies();
        mostCopies();
        mostHidden();
        images();
        backs();
        backsRefused();
        counts();
    }

    private static ZoneLedger none() {
        return new ZoneLedger();
    }

    private static Supplier<ZoneLedger> made(String text) {
        return () -> Checks.drive(text);
    }

    private void mostDue(ZoneLedger x, int what, int want) {
        doc.due("most(" + what + ")", x.most(what), want);
    }

    // ---- 44

    private void mostDead() {
        doc.says(44, "The ZONE with most DEAD of FULL ones (0; NONE: none is FULL)");
        ZoneLedger x = Checks.drive("sz5c2");
        mostDue(x, 0, NONE);
        x.put(1, 1);
        mostDue(x, 0, NONE);
        x.put(2, 2);
        // FULL of what lives: DEAD 0 is the most.
        mostDue(x, 0, 0);
        x.put(3, 3);
        x.put(3, 4);
        mostDue(x, 0, 1);
        x.put(1, 5);
        // Zones 0 and 1 have DEAD 1 each: the lowest.
        mostDue(x, 0, 0);
        x.finish(2);
        mostDue(x, 0, 0);
        x.put(3, 6);
        // Zone 1 has DEAD 2 now; those that are not FULL do not count.
        mostDue(x, 0, 1);
    }

    private void mostResets() {
        doc.says(44, "with most RESETS (1)");
        ZoneLedger x = Checks.drive("sz5c2");
        mostDue(x, 1, 0);
        x.open(4);
        x.reset(4);
        mostDue(x, 1, 4);
        x.open(2);
        x.reset(2);
        mostDue(x, 1, 2);
        x.open(1);
        x.reset(1);
        mostDue(x, 1, 1);
        x.open(4);
        x.reset(4);
        mostDue(x, 1, 4);
    }

    private void oldest() {
        doc.says(44, "of the oldest LIVE BLOCK (2; NONE: none) (of several the lowest)");
        ZoneLedger x = Checks.drive("sz5c2");
        mostDue(x, 2, NONE);
        x.put(1, 1);
        mostDue(x, 2, 0);
        x.put(2, 2);
        x.put(1, 3);
        mostDue(x, 2, 0);
        x.put(2, 4);
        mostDue(x, 2, 1);
        x.delete(1);
        x.delete(2);
        // The DELETIONS live in zone 2; when nothing older is there, nothing lives.
        mostDue(x, 2, 2);
        x.reset(0);
        x.reset(1);
        mostDue(x, 2, NONE);
        // Zone 0 was cleaned, and has 2 (7) now, zone 3 what was moved, 4 (5); the oldest is 3 (4) in zone 2.
        x = Checks.drive("sz4c2m2;wk1;wk2;wk3;wk3;wk4;wk1;wk2");
        doc.due("key(2, 0)", x.key(2, 0), 0);
        mostDue(x, 2, 2);
    }

    private void bits() {
        doc.says(44, "EMPTY (3), OPEN (4), ACTIVE (5), FULL (6) ones (bits)");
        ZoneLedger x = Checks.drive("sz3");
        mostDue(x, 3, 7);
        mostDue(x, 4, 0);
        mostDue(x, 5, 0);
        mostDue(x, 6, 0);
        x = Checks.drive("sz8c2o4a4");
        mostDue(x, 3, 255);
        x.open(7);
        x.finish(7);
        mostDue(x, 3, 127);
        mostDue(x, 6, 128);
        x.put(1, 1);
        x.close(0);
        x.open(3);
        mostDue(x, 3, 0b01110110);
        mostDue(x, 4, 0b00001000);
        mostDue(x, 5, 0b00001001);
        mostDue(x, 6, 0b10000000);
        x.finish(0);
        mostDue(x, 6, 0b10000001);
    }

    private void amounts() {
        doc.says(44, "LIVE BLOCKS (7), BLOCKS (8), DELETIONS that are LIVE (9), KEYS with a VALUE (10)");
        ZoneLedger x = Checks.drive("sz4c4");
        amountsDue(x, 0, 0, 0, 0);
        x.put(0, 0);
        amountsDue(x, 1, 1, 0, 1);
        x.put(0, 1);
        amountsDue(x, 1, 2, 0, 1);
        x.put(31, 0);
        amountsDue(x, 2, 3, 0, 2);
        x.delete(0);
        amountsDue(x, 2, 4, 1, 1);
        // The DELETION is moved, and lives no more.
        x.clean();
        amountsDue(x, 1, 2, 0, 1);
    }

    private void amountsDue(ZoneLedger x, int live, int blocks, int deletions, int keys) {
        mostDue(x, 7, live);
        mostDue(x, 8, blocks);
        mostDue(x, 9, deletions);
        mostDue(x, 10, keys);
    }

    private void tallies() {
        doc.says(44, "BLOCKS APPENDED for PUTS and DELETES (11), MOVED (12), CLEANINGS (13), CRASHES (14), the NUMBER given"
                + " latest (15)");
        ZoneLedger x = Checks.drive("sz4c4");
        talliesDue(x, 0, 0, 0, 0, 0);
        x.put(1, 1);
        x.put(2, 1);
        x.put(32, 1);
        talliesDue(x, 2, 0, 0, 0, 2);
        x.delete(1);
        x.delete(1);
        talliesDue(x, 3, 0, 0, 0, 3);
        x.finish(0);
        x.clean();
        talliesDue(x, 3, 2, 1, 0, 3);
        x.clean();
        talliesDue(x, 3, 2, 1, 0, 3);
        x.crash();
        x.crash();
        talliesDue(x, 3, 2, 1, 2, 3);
        // A RESET by hand is no CLEANING; the NUMBER falls by the CRASH, what was counted not.
        x.delete(2);
        x.finish(1);
        x.clean();
        talliesDue(x, 4, 3, 2, 2, 4);
        x.reset(2);
        talliesDue(x, 4, 3, 2, 2, 4);
        x.crash();
        talliesDue(x, 4, 3, 2, 3, 0);
        // What a PUT cleans is counted, too.
        x = Checks.drive("sz3c2;wk1;wk2;wk1;wk3;wk4");
        talliesDue(x, 5, 1, 1, 0, 5);
    }

    private void talliesDue(ZoneLedger x, int... want) {
        for (int i = 0; i < 5; i++) {
            mostDue(x, 11 + i, want[i]);
        }
    }

    private void mostCopies() {
        doc.says(44, "the KEY with most BLOCKS (16; NONE: none; of several the lowest).");
        ZoneLedger x = Checks.drive("sz4c4");
        mostDue(x, 16, NONE);
        x.put(31, 1);
        mostDue(x, 16, 31);
        x.put(7, 1);
        mostDue(x, 16, 7);
        x.put(31, 1);
        mostDue(x, 16, 31);
        x.delete(7);
        mostDue(x, 16, 7);
        x.put(0, 1);
        mostDue(x, 16, 7);
        x.put(0, 1);
        mostDue(x, 16, 0);
    }

    private void mostHidden() {
        doc.says(44, "HIDDEN: no DRIVE, no such what.");
        for (int what = 0; what < 17; what++) {
            doc.due("most(" + what + ") without a DRIVE", none().most(what), HIDDEN);
            doc.holds("most(" + what + ")", Checks.drive("s").most(what) != HIDDEN);
        }
        mostDue(Checks.drive("s"), -1, HIDDEN);
        mostDue(Checks.drive("s"), 17, HIDDEN);
        for (int far : Sentences.FAR_OFF) {
            mostDue(Checks.drive("s"), far, HIDDEN);
        }
    }

    // ---- 45 and 46

    private void images() {
        doc.says(45, "An IMAGE keeps ZONES, BLOCKS, STREAMS, the NUMBER, POLICY, what was counted, the LOG");
        ZoneLedger x = RecordBoundaries.busy();
        x.image();
        String kept = Snapshot.ofDrive(x);
        x.years(40, 8);
        x.crash();
        x.policy(0);
        doc.holds("much has changed", !Snapshot.ofDrive(x).equals(kept));
        x.back();
        doc.same("all is so again", Snapshot.ofDrive(x), kept);
        // Who was let be longest is kept, too: zone 1 then, not zone 0.
        x = Checks.drive("sz6c8o2a4m3;wk1;wk2;wk3;wk3;wk3");
        x.image();
        x.put(9, 1);
        x.back();
        doc.due("put(1, 1)", x.put(1, 1), 32);
        doc.statesDue(x, 2, 1, 1);

        doc.says(45, "An IMAGE (instead of the one ahead): the NUMBER given latest.");
        x = Checks.drive("wk1v1");
        doc.due("image()", x.image(), 1);
        x.put(1, 2);
        doc.due("image()", x.image(), 2);
        x.put(1, 3);
        x.back();
        doc.due("get(1)", x.get(1), 2);
        doc.due("image() of nothing", Checks.drive("s").image(), 0);
        doc.due("count(4): it is no ACT, and hinders none", countBehindImage(), 1);

        doc.says(45, "NONE: no DRIVE.");
        doc.refused("image() without a DRIVE", CountBoundaries::none, y -> doc.due("image", y.image(), NONE), NONE);
    }

    private static int countBehindImage() {
        ZoneLedger x = Checks.drive("s");
        x.put(1, 1);
        x.image();
        return x.count(4);
    }

    private void backs() {
        doc.says(46, "BACK: they are so again (no ACT can be UNDONE then).");
        ZoneLedger x = Checks.drive("wk1v1");
        x.put(1, 2);
        x.image();
        x.put(1, 3);
        doc.due("back()", x.back(), 2);
        doc.due("get(1)", x.get(1), 2);
        doc.due("count(4)", x.count(4), 0);
        doc.due("undo()", x.undo(), NONE);
        x.put(1, 4);
        doc.due("undo()", x.undo(), 0);
        doc.due("get(1)", x.get(1), 2);

        doc.says(46, "BACK: the NUMBER given latest.");
        x.put(1, 5);
        x.put(1, 6);
        doc.due("back() once more", x.back(), 2);
        doc.due("get(1)", x.get(1), 2);
        doc.due("back() at once", x.back(), 2);
        // UNDO of what was done ahead of the IMAGE leaves the IMAGE.
        x = Checks.drive("s");
        x.put(1, 1);
        x.image();
        x.undo();
        doc.due("get(1)", x.get(1), NONE);
        doc.due("back()", x.back(), 1);
        doc.due("get(1)", x.get(1), 1);
    }

    private void backsRefused() {
        doc.says(46, "NONE: no IMAGE of this DRIVE.");
        doc.refused("back() without an IMAGE", made("sz4c4;wk1"), x -> doc.due("back", x.back(), NONE), NONE);
        doc.due("back() without a DRIVE", none().back(), NONE);
        ZoneLedger x = Checks.drive("wk1v1");
        x.image();
        Checks.feed(x, "x");
        x.text(0);
        doc.due("back() behind a FAULT", x.back(), 1);
        Checks.feed(x, "wk1v1");
        x.text(0);
        doc.due("back() of another DRIVE, told alike", x.back(), NONE);
        x.image();
        doc.due("back()", x.back(), 1);
    }

    // ---- 47

    private void counts() {
        doc.says(47, "0 ZONES, 1 SCRIPTS, 2 bytes of the TAPE, 3 how long the LOG is, 4 ACTS that can be UNDONE.");
        ZoneLedger x = none();
        countsDue(x, 0, 0, 0, 0, 0);
        x.feed(0x73000000, 0, 0, 0, 0);
        countsDue(x, 0, 0, 1, 0, 0);
        x.text(0);
        countsDue(x, 4, 0, 0, 0, 0);
        x.put(1, 1);
        countsDue(x, 4, 0, 0, 1, 1);
        x.policy(1);
        countsDue(x, 4, 0, 0, 1, 2);
        Checks.script(x, "c");
        countsDue(x, 4, 1, 0, 1, 2);
        Checks.feed(x, "sz8");
        countsDue(x, 4, 1, 3, 1, 2);
        x.text(0);
        countsDue(x, 8, 1, 0, 0, 0);
        doc.due("count(0) of three", Checks.drive("sz3").count(0), 3);

        doc.says(47, "HIDDEN for others.");
        doc.due("count(-1)", x.count(-1), HIDDEN);
        doc.due("count(5)", x.count(5), HIDDEN);
        for (int far : Sentences.FAR_OFF) {
            doc.due("count(" + far + ")", x.count(far), HIDDEN);
        }
        doc.due("count(5) without a DRIVE", none().count(5), HIDDEN);
    }

    private void countsDue(ZoneLedger x, int... want) {
        for (int what = 0; what < 5; what++) {
            doc.due("count(" + what + ")", x.count(what), want[what]);
        }
    }
}
