/** Promises 6 to 13, and what the Terms say of ZONES, BLOCKS and STREAMS. */
final class LookBoundaries {
    private static final int NONE = Sentences.NONE;
    private static final int HIDDEN = Sentences.HIDDEN;
    private static final int THROWS = Sentences.THROWS;
    private static final int EMPTY = 0;
    private static final int OPEN = 1;
    private static final int CLOSED = 2;
    private static final int FULL = 3;

    private final Sentences doc;

    LookBoundaries(Sentences doc) {
        this.doc = doc;
    }

    void run() {
        constants();
        rules();
        states();
        latest();
        live();
        deadAndAge();
        zones();
        blocks();
        gets();
        keys();
        distances();
        nexts();
        ranges();
        streams();
    }

    private static ZoneLedger none() {
        return new ZoneLedger();
    }

    private void constants() {
        doc.says(9, "None; refused.");
        doc.due("NONE", ZoneLedger.NONE, -1);
        doc.says(8, "`HIDDEN = -1000000`: Not told.");
        doc.due("HIDDEN", ZoneLedger.HIDDEN, -1000000);
    }

    private void rules() {
        doc.says(6, "(Is a told as less than o, o goes as a.)");
        for (int o = 1; o <= 8; o++) {
            for (int a = 1; a <= 8; a++) {
                ZoneLedger x = Checks.drive("so" + o + "a" + a);
                doc.due("rule(2) of o" + o + "a" + a, x.rule(2), Math.min(o, a));
                doc.due("rule(3) of o" + o + "a" + a, x.rule(3), a);
                x = Checks.drive("sa" + a + "o" + o);
                doc.due("rule(2) of a" + a + "o" + o, x.rule(2), Math.min(o, a));
            }
        }

        doc.says(6, "0 ZONES, 1 CAPACITY, 2 OPEN, 3 ACTIVE ones at most (as they go), 4 STREAMS, 5 RESERVE, 6 POLICY as"
                + " now.");
        ZoneLedger x = Checks.drive("sz8c16o4a5m3r2p1");
        int[] want = {8, 16, 4, 5, 3, 2, 1};
        for (int what = 0; what < 7; what++) {
            doc.due("rule(" + what + ")", x.rule(what), want[what]);
        }
        x.policy(3);
        doc.due("rule(6) set", x.rule(6), 3);

        doc.says(6, "NONE: no DRIVE, no such what.");
        for (int what = 0; what < 7; what++) {
            doc.due("rule(" + what + ") without a DRIVE", none().rule(what), NONE);
        }
        doc.due("rule(-1)", x.rule(-1), NONE);
        doc.due("rule(7)", x.rule(7), NONE);
        for (int what : Sentences.FAR_OFF) {
            doc.due("rule(" + what + ")", x.rule(what), NONE);
        }
    }

    private void states() {
        doc.says(7, "A ZONE is EMPTY (0), OPEN (1), CLOSED (2) or FULL (3); it has a POINTER (how many BLOCKS it has, from"
                + " its place 0 on) and RESETS.");
        ZoneLedger x = Checks.drive("sz4c2");
        stateDue(x, EMPTY, 0, 0);
        x.put(1, 1);
        stateDue(x, OPEN, 1, 0);
        x.close(0);
        stateDue(x, CLOSED, 1, 0);
        x.put(1, 2);
        stateDue(x, FULL, 2, 0);
        x.put(1, 3);
        x.reset(0);
        stateDue(x, EMPTY, 0, 1);
        x.open(0);
        stateDue(x, OPEN, 0, 1);
        x.finish(0);
        stateDue(x, FULL, 0, 1);

        doc.says(44, "OPEN and CLOSED ones are ACTIVE.");
        // 1 lies in zone 0 of STREAM 1 and in zone 1 of STREAM 0.
        x = Checks.drive("sz5c4m2o3a3;wk1;wk1");
        doc.due("most(5), two OPEN", x.most(5), 3);
        x.close(0);
        doc.due("most(5), one CLOSED", x.most(5), 3);
        x.finish(0);
        doc.due("most(5), one FULL", x.most(5), 2);
        x.open(3);
        doc.due("most(5), OPEN by hand", x.most(5), 10);
        x.close(3);
        doc.due("most(5), CLOSED with POINTER 0", x.most(5), 2);
    }

    private void stateDue(ZoneLedger x, int state, int pointer, int resets) {
        doc.zoneDue(x, 0, 0, state);
        doc.zoneDue(x, 0, 1, pointer);
        doc.zoneDue(x, 0, 4, resets);
        for (int i = 0; i < 2; i++) {
            doc.holds("block(0, " + i + ", 0) is there", i < pointer == (x.block(0, i, 0) != HIDDEN));
        }
    }

    private void latest() {
        doc.says(10, "The LATEST of a KEY is the BLOCK of it with the greatest NUMBER (of several that in the lowest ZONE,"
                + " there the first).");
        ZoneLedger x = Checks.drive("sz4c4m2;wk1v1;wk1v2;wk2v3;wk1v4");
        // STREAM 1 has zone 0 with 1 (1) and 2 (3), STREAM 0 zone 1 with 1 (2) and 1 (4).
        doc.due("key(1, 0)", x.key(1, 0), 17);
        doc.due("key(1, 1)", x.key(1, 1), 4);
        doc.due("key(2, 0)", x.key(2, 0), 1);
        x.finish(1);
        x.clean();
        // 1 with NUMBER 4 was moved behind 1 with NUMBER 1: the later PLACE, the greater NUMBER.
        doc.due("key(1, 0) moved", x.key(1, 0), 2);
        doc.due("key(1, 1) moved", x.key(1, 1), 4);
        x.put(1, 9);
        doc.due("key(1, 1)", x.key(1, 1), 5);
        // Of several: torn cleanings leave each BLOCK with its copy, and no KEY another VALUE.
        x = Checks.drive("sz4c4;wk1v1;wk2v2;wk1v3;wk3v4");
        doc.due("torn(3, 1)", x.torn(3, 1), 3);
        doc.due("torn(3, 0)", x.torn(3, 0), 0);
    }

    private void live() {
        doc.says(8, "A BLOCK has KEY, VALUE (NONE: a DELETION) and NUMBER.");
        ZoneLedger x = Checks.drive("sz4c4;wk1v1;wk2v2;wk1v3");
        x.delete(2);
        blockDue(x, 0, 0, 1, 1, 1);
        blockDue(x, 0, 2, 1, 3, 3);
        blockDue(x, 0, 3, 2, NONE, 4);

        doc.says(8, "A BLOCK is LIVE, if it is the LATEST of its KEY, and no DELETION, or one of whose KEY another BLOCK"
                + " with a lesser NUMBER is there.");
        liveDue(x, 0, 0, 0, 1, 1);
        x.put(1, 5);
        liveDue(x, 0, 0, 0, 0, 1);
        liveDue(x, 1, 1);
        doc.due("clean(): the DELETION alone is moved", x.clean(), 1);
        doc.due("block(1, 1, 1)", x.block(1, 1, 1), NONE);
        liveDue(x, 1, 1, 0);
        // Two DELETIONS of one KEY: the later lives by the earlier, which is dead.
        x = Checks.drive("sz4c2;wk1");
        x.delete(1);
        x.put(1, 1);
        x.delete(1);
        liveDue(x, 0, 0, 0);
        liveDue(x, 1, 0, 1);
        x.reset(0);
        liveDue(x, 1, 0, 1);
        // The DELETION stands in a lower ZONE than what is older: zone 0 was RESET, and taken again.
        x = olderAbove();
        liveDue(x, 0, 1);
        x.open(4);
        x.reset(4);
        liveDue(x, 0, 1);
        liveDue(x, 1, 0, 0);
    }

    /** Zone 0 has the DELETION of 1 (7), zone 1 has 1 (3) and 8 (4), zone 2 has 9 (5) and 8 (6). */
    static ZoneLedger olderAbove() {
        ZoneLedger x = Checks.drive("sz5c2;wk9;wk9;wk1;wk8;wk9;wk8");
        for (int zone : new int[] {0, 3, 4}) {
            x.open(zone);
            x.reset(zone);
        }
        x.delete(1);
        return x;
    }

    private void blockDue(ZoneLedger x, int zone, int i, int key, int value, int number) {
        doc.due("block(" + zone + ", " + i + ", 0)", x.block(zone, i, 0), key);
        doc.due("block(" + zone + ", " + i + ", 1)", x.block(zone, i, 1), value);
        doc.due("block(" + zone + ", " + i + ", 2)", x.block(zone, i, 2), number);
    }

    private void liveDue(ZoneLedger x, int zone, int... want) {
        int live = 0;
        for (int i = 0; i < want.length; i++) {
            doc.due("block(" + zone + ", " + i + ", 3)", x.block(zone, i, 3), want[i]);
            live += want[i];
        }
        doc.zoneDue(x, zone, 2, live);
    }

    private void deadAndAge() {
        doc.says(7, "DEAD, of a ZONE: CAPACITY less its LIVE ones.");
        ZoneLedger x = Checks.drive("sz4c3;wk1;wk2;wk1");
        doc.zoneDue(x, 0, 3, 1);
        doc.zoneDue(x, 1, 3, 3);
        x.put(3, 3);
        doc.zoneDue(x, 1, 3, 2);
        x.put(4, 4);
        x.put(5, 5);
        doc.zoneDue(x, 1, 3, 0);
        x.open(3);
        x.finish(3);
        doc.zoneDue(x, 3, 3, 3);

        doc.says(7, "AGE, of a ZONE: the NUMBER given latest (0 at first) less the greatest NUMBER in it (without BLOCKS"
                + " 0).");
        x = Checks.drive("sz5c2");
        doc.zoneDue(x, 0, 5, 0);
        x.put(1, 1);
        doc.zoneDue(x, 0, 5, 0);
        x.put(2, 2);
        x.put(3, 3);
        doc.zoneDue(x, 0, 5, 1);
        doc.zoneDue(x, 1, 5, 0);
        doc.zoneDue(x, 4, 5, 0);
        x.put(1, 4);
        x.put(3, 5);
        // 2 is moved behind 3 (5): the greatest NUMBER is not the last one's.
        x.clean();
        doc.due("block(2, 1, 2)", x.block(2, 1, 2), 2);
        doc.zoneDue(x, 2, 5, 0);
        doc.zoneDue(x, 0, 5, 0);
        doc.zoneDue(x, 1, 5, 1);
        x.open(4);
        x.finish(4);
        doc.zoneDue(x, 4, 5, 0);
    }

    private void zones() {
        doc.says(7, "Of a ZONE: 0 what it is, 1 POINTER, 2 LIVE ones, 3 DEAD, 4 RESETS, 5 AGE, 6 whose STREAM it is"
                + " (NONE), 7 SCORE by the POLICY as now (whether it could be taken or not).");
        ZoneLedger x = Checks.drive("sz3c4m2;wk1;wk2;wk1;wk9;wk8");
        // Zone 0 has 1, 2, 9, 8 (1, 2, 4, 5), zone 1 has 1 (3).
        int[][] want = {{FULL, 4, 3, 1, 0, 0, 1, 1}, {OPEN, 1, 1, 3, 0, 2, 0, 3}, {EMPTY, 0, 0, 4, 0, 0, NONE, 4}};
        for (int zone = 0; zone < 3; zone++) {
            for (int what = 0; what < 8; what++) {
                doc.zoneDue(x, zone, what, want[zone][what]);
            }
        }
        x.policy(1);
        doc.zoneDue(x, 0, 7, 0);
        doc.zoneDue(x, 1, 7, 1200);
        doc.zoneDue(x, 2, 7, 0);
        x.policy(2);
        doc.zoneDue(x, 1, 7, 2);
        x.policy(3);
        doc.zoneDue(x, 1, 7, 20003);
        x.crash();
        doc.zoneDue(x, 1, 6, 0);
        doc.zoneDue(x, 0, 6, NONE);

        doc.says(7, "NoSuchElementException: no such ones.");
        for (int zone = 0; zone < 8; zone++) {
            doc.holds("zone(" + zone + ", 0) of three", zone < 3 == (Sentences.zone(x, zone, 0) != THROWS));
        }
        doc.zoneDue(x, -1, 0, THROWS);
        doc.zoneDue(x, 0, -1, THROWS);
        doc.zoneDue(x, 0, 8, THROWS);
        for (int far : Sentences.FAR_OFF) {
            doc.zoneDue(x, far, 0, THROWS);
            doc.zoneDue(x, 0, far, THROWS);
        }
        for (int what = 0; what < 8; what++) {
            doc.zoneDue(none(), 0, what, THROWS);
        }
        doc.holds("zone(7, 7) of eight", Sentences.zone(Checks.drive("sz8"), 7, 7) != THROWS);
    }

    private void blocks() {
        doc.says(8, "Of a BLOCK: 0 KEY, 1 VALUE (NONE: a DELETION), 2 NUMBER, 3 whether LIVE (1, 0).");
        ZoneLedger x = Checks.drive("sz3c2;wk31v999;wk0v0");
        x.put(0, 1);
        x.delete(31);
        int[][] want = {{31, 999, 1, 0}, {0, 0, 2, 0}, {0, 1, 3, 1}, {31, NONE, 4, 1}};
        for (int i = 0; i < 4; i++) {
            for (int what = 0; what < 4; what++) {
                doc.due("block(" + i / 2 + ", " + i % 2 + ", " + what + ")", x.block(i / 2, i % 2, what), want[i][what]);
            }
        }

        doc.says(8, "HIDDEN: no such ones.");
        doc.due("block(0, 2, 0) at CAPACITY", x.block(0, 2, 0), HIDDEN);
        doc.due("block(0, -1, 0)", x.block(0, -1, 0), HIDDEN);
        doc.due("block(2, 0, 0) of an EMPTY one", x.block(2, 0, 0), HIDDEN);
        doc.due("block(3, 0, 0)", x.block(3, 0, 0), HIDDEN);
        doc.due("block(-1, 0, 0)", x.block(-1, 0, 0), HIDDEN);
        doc.due("block(0, 0, -1)", x.block(0, 0, -1), HIDDEN);
        doc.due("block(0, 0, 4)", x.block(0, 0, 4), HIDDEN);
        doc.due("block(0, 0, 0) without a DRIVE", none().block(0, 0, 0), HIDDEN);
        for (int far : Sentences.FAR_OFF) {
            doc.due("block(" + far + ", 0, 0)", x.block(far, 0, 0), HIDDEN);
            doc.due("block(0, " + far + ", 0)", x.block(0, far, 0), HIDDEN);
            doc.due("block(0, 0, " + far + ")", x.block(0, 0, far), HIDDEN);
        }
        ZoneLedger y = Checks.drive("sz3c4;wk1");
        doc.due("block(0, 1, 0) at the POINTER", y.block(0, 1, 0), HIDDEN);
        x.reset(0);
        doc.due("block(0, 0, 0) behind a RESET", x.block(0, 0, 0), HIDDEN);
    }

    private void gets() {
        doc.says(9, "The VALUE of a KEY.");
        ZoneLedger x = Checks.drive("wk0v0;wk31v999;wk5v5");
        doc.due("get(0)", x.get(0), 0);
        doc.due("get(31)", x.get(31), 999);
        x.put(5, 6);
        doc.due("get(5)", x.get(5), 6);
        doc.says(9, "NONE: none, no such KEY.");
        x.delete(5);
        doc.due("get(5), DELETED", x.get(5), NONE);
        doc.due("get(1), never PUT", x.get(1), NONE);
        doc.due("get(-1)", x.get(-1), NONE);
        doc.due("get(32)", x.get(32), NONE);
        for (int far : Sentences.FAR_OFF) {
            doc.due("get(" + far + ")", x.get(far), NONE);
        }
        doc.due("get(0) without a DRIVE", none().get(0), NONE);
    }

    private void keys() {
        doc.says(10, "Of a KEY: 0 the PLACE of its LATEST, 1 its NUMBER, 2 to which STREAM it would be PUT now, 3 how many"
                + " BLOCKS of it there are.");
        ZoneLedger x = Checks.drive("sz4c2m2;wk0;wk31;wk0");
        int[][] want = {{16, 3, 0, 2}, {1, 2, 0, 1}};
        for (int what = 0; what < 4; what++) {
            doc.due("key(0, " + what + ")", x.key(0, what), want[0][what]);
            doc.due("key(31, " + what + ")", x.key(31, what), want[1][what]);
        }
        doc.due("key(7, 2), never PUT", x.key(7, 2), 1);
        doc.due("key(7, 3), never PUT", x.key(7, 3), 0);
        x.delete(0);
        doc.due("key(0, 0) of a DELETION", x.key(0, 0), 17);
        doc.due("key(0, 3) with a DELETION", x.key(0, 3), 3);

        doc.says(10, "NONE: none, no such ones.");
        doc.due("key(7, 0), never PUT", x.key(7, 0), NONE);
        doc.due("key(7, 1), never PUT", x.key(7, 1), NONE);
        doc.due("key(0, -1)", x.key(0, -1), NONE);
        doc.due("key(0, 4)", x.key(0, 4), NONE);
        for (int what = 0; what < 4; what++) {
            doc.due("key(-1, " + what + ")", x.key(-1, what), NONE);
            doc.due("key(32, " + what + ")", x.key(32, what), NONE);
            doc.due("key(0, " + what + ") without a DRIVE", none().key(0, what), NONE);
        }
        for (int far : Sentences.FAR_OFF) {
            doc.due("key(" + far + ", 3)", x.key(far, 3), NONE);
            doc.due("key(0, " + far + ")", x.key(0, far), NONE);
        }
    }

    private void distances() {
        doc.says(10, "DISTANCE is the NUMBER given latest and 1 less that of the LATEST of its KEY.");
        // 1 has NUMBER 1, so that at the NUMBER n its DISTANCE is n; that of 2 is 1 less.
        ZoneLedger two = Checks.drive("sz8c16m2;wk1;wk2");
        for (int key = 3; key < 9; key++) {
            two.put(key, 0);
        }
        doc.due("key(1, 2) at 8", two.key(1, 2), 0);
        two.put(9, 0);
        doc.due("key(1, 2) at 9", two.key(1, 2), 1);
        doc.due("key(2, 2) at 9", two.key(2, 2), 0);
        two.put(10, 0);
        doc.due("key(2, 2) at 10", two.key(2, 2), 1);

        doc.says(10, "STREAM: without a LATEST the last");
        for (int streams = 1; streams <= 3; streams++) {
            ZoneLedger x = Checks.drive("sz8c16a8m" + streams);
            doc.due("key(1, 2) of " + streams, x.key(1, 2), streams - 1);
            x.put(1, 1);
            doc.due("stream(" + (streams - 1) + ")", x.stream(streams - 1), 0);
        }
        streamsDue("with two STREAMS 0 for a DISTANCE of 8 or less, else 1", 2, 8, 1000);
        streamsDue("with three 0 for 4 or less, 1 for 16 or less, else 2.", 3, 4, 16);
        ZoneLedger one = Checks.drive("sz8c16");
        for (int number = 1; number <= 20; number++) {
            one.put(number, 1);
            doc.due("key(1, 2) of one", one.key(1, 2), 0);
        }
    }

    private void streamsDue(String sentence, int streams, int first, int second) {
        doc.says(10, sentence);
        for (int distance = 1; distance <= 20; distance++) {
            ZoneLedger x = Checks.drive("sz8c16a8m" + streams);
            x.put(0, 1);
            for (int number = 2; number <= distance; number++) {
                x.put(number, 1);
            }
            int want = distance <= first ? 0 : distance <= second ? 1 : 2;
            doc.due("key(0, 2) at " + distance, x.key(0, 2), want);
            int place = x.put(0, 2);
            doc.due("stream of put at " + distance, x.stream(want), place / 16);
        }
    }

    private void nexts() {
        doc.says(11, "The least KEY from this one on that has a VALUE.");
        ZoneLedger x = Checks.drive("wk0;wk7v1;wk31v2");
        doc.due("next(0), itself", x.next(0), 0);
        doc.due("next(1)", x.next(1), 7);
        doc.due("next(7)", x.next(7), 7);
        doc.due("next(8)", x.next(8), 31);
        doc.due("next(31)", x.next(31), 31);
        x.delete(7);
        doc.due("next(1), 7 is DELETED", x.next(1), 31);
        doc.says(11, "NONE: none, no such KEY.");
        x.delete(31);
        doc.due("next(1)", x.next(1), NONE);
        doc.due("next(31)", x.next(31), NONE);
        doc.due("next(-1)", x.next(-1), NONE);
        doc.due("next(32)", x.next(32), NONE);
        for (int far : Sentences.FAR_OFF) {
            doc.due("next(" + far + ")", x.next(far), NONE);
        }
        doc.due("next(0) of none", Checks.drive("s").next(0), NONE);
        doc.due("next(0) without a DRIVE", none().next(0), NONE);
    }

    private void ranges() {
        doc.says(12, "Of KEYS from a to b that have a VALUE: how many (0), their VALUES added up (1).");
        ZoneLedger x = Checks.drive("wk0v1;wk5v10;wk31v100;wk6v999");
        int[][] want = {{0, 31, 4, 1110}, {0, 0, 1, 1}, {31, 31, 1, 100}, {1, 4, 0, 0}, {5, 6, 2, 1009}, {0, 30, 3, 1010},
            {1, 31, 3, 1109}, {6, 6, 1, 999}, {7, 31, 1, 100}};
        for (int[] row : want) {
            doc.due("range(" + row[0] + ", " + row[1] + ", 0)", x.range(row[0], row[1], 0), row[2]);
            doc.due("range(" + row[0] + ", " + row[1] + ", 1)", x.range(row[0], row[1], 1), row[3]);
        }
        x.delete(6);
        doc.due("range(0, 31, 0)", x.range(0, 31, 0), 3);
        doc.due("range(0, 31, 1)", x.range(0, 31, 1), 111);

        doc.says(12, "NONE: no such ones, b below a.");
        doc.due("range(5, 4, 0)", x.range(5, 4, 0), NONE);
        doc.due("range(31, 0, 1)", x.range(31, 0, 1), NONE);
        doc.due("range(-1, 31, 0)", x.range(-1, 31, 0), NONE);
        doc.due("range(0, 32, 0)", x.range(0, 32, 0), NONE);
        doc.due("range(32, 32, 0)", x.range(32, 32, 0), NONE);
        doc.due("range(-1, -1, 0)", x.range(-1, -1, 0), NONE);
        doc.due("range(0, 31, -1)", x.range(0, 31, -1), NONE);
        doc.due("range(0, 31, 2)", x.range(0, 31, 2), NONE);
        for (int far : Sentences.FAR_OFF) {
            doc.due("range(" + far + ", 31, 0)", x.range(far, 31, 0), NONE);
            doc.due("range(0, " + far + ", 0)", x.range(0, far, 0), NONE);
            doc.due("range(0, 31, " + far + ")", x.range(0, 31, far), NONE);
        }
        doc.due("range(0, 31, 0) without a DRIVE", none().range(0, 31, 0), NONE);
    }

    private void streams() {
        doc.says(13, "Each STREAM has a ZONE, or none (at first).");
        ZoneLedger x = Checks.drive("sz6c2m3a8o8");
        for (int stream = 0; stream < 3; stream++) {
            doc.due("stream(" + stream + ")", x.stream(stream), NONE);
        }
        doc.says(13, "The ZONE of a STREAM.");
        x.put(1, 1);
        doc.due("stream(2)", x.stream(2), 0);
        x.put(1, 1);
        doc.due("stream(0)", x.stream(0), 1);
        x.put(2, 1);
        doc.due("stream(2), FULL", x.stream(2), 0);
        x.put(3, 1);
        doc.due("stream(2), the next", x.stream(2), 2);
        doc.says(13, "NONE: none, no such one.");
        doc.due("stream(1)", x.stream(1), NONE);
        doc.due("stream(-1)", x.stream(-1), NONE);
        doc.due("stream(3)", x.stream(3), NONE);
        for (int far : Sentences.FAR_OFF) {
            doc.due("stream(" + far + ")", x.stream(far), NONE);
        }
        ZoneLedger one = Checks.drive("w");
        doc.due("stream(0) of one", one.stream(0), 0);
        doc.due("stream(1) of one", one.stream(1), NONE);
        doc.due("stream(0) without a DRIVE", none().stream(0), NONE);
    }
}
