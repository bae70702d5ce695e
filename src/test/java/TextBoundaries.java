/** Promises 1 to 5, and what the Terms say of TEXTS. */
final class TextBoundaries {
    private static final int NONE = Sentences.NONE;
    private static final int HIDDEN = Sentences.HIDDEN;
    private static final int DRIVE = 0;
    private static final int SCRIPT = 1;

    private final Sentences doc;

    TextBoundaries(Sentences doc) {
        this.doc = doc;
    }

    void run() {
        newObject();
        lastCall();
        feeds();
        ends();
        faultSorts();
        driveClauses();
        driveItems();
        ruleBounds();
        writeBounds();
        scriptSteps();
        blanks();
        endsTooEarly();
        numbersOutOfBounds();
        lettersOnceMore();
        stepsThatCannotBe();
        tellings();
        firstWrites();
    }

    private void faultDue(int sort, String text, int want) {
        ZoneLedger x = new ZoneLedger();
        Checks.feed(x, text);
        String shown = text.length() > 70 ? text.substring(0, 20) + " .. (" + text.length() + ")" : text;
        doc.due("fault(" + sort + ") of '" + shown + "'", x.fault(sort), want);
        doc.holds("text(" + sort + ") of '" + shown + "' is told", want == NONE == x.text(sort) >= 0);
        doc.due("count(2) behind '" + shown + "'", x.count(2), want == NONE ? 0 : text.length());
    }

    private void allGood(int sort, String... texts) {
        for (String text : texts) {
            faultDue(sort, text, NONE);
        }
    }

    /** Every number of one to three digits, with noughts ahead of it, too. */
    private void boundsDue(int sort, String ahead, String behind, int least, int most) {
        for (int n = 0; n < 1000; n++) {
            String number = String.valueOf(n);
            while (number.length() <= 3) {
                boolean good = n >= least && n <= most;
                faultDue(sort, ahead + number + behind, good ? NONE : ahead.length() + number.length() - 1);
                number = "0" + number;
            }
        }
    }

    // ---- 1 and what it is

    private void newObject() {
        doc.says(1, "No DRIVE.");
        ZoneLedger x = new ZoneLedger();
        for (int what = 0; what < 5; what++) {
            doc.due("count(" + what + ")", x.count(what), 0);
        }
        for (int what = 0; what < 7; what++) {
            doc.due("rule(" + what + ")", x.rule(what), NONE);
        }
        for (int what = 0; what < 17; what++) {
            doc.due("most(" + what + ")", x.most(what), HIDDEN);
        }
        doc.statusDue(x, 0, 0, 0, 0);
        doc.due("image()", x.image(), NONE);
        doc.due("undo()", x.undo(), NONE);
    }

    private void lastCall() {
        doc.says(1, "An object is used for at most 512 calls after it has been made; what later calls answer is free.");
        ZoneLedger x = new ZoneLedger();
        x.feed(0x73000000, 0, 0, 0, 0);
        x.text(0);
        for (int call = 3; call < 512; call++) {
            doc.holds("put as call " + call, x.put(1, call) >= 0);
        }
        doc.due("get(1) as call 512", x.get(1), 511);
    }

    // ---- 2 to 4

    private void feeds() {
        doc.says(2, "Twenty bytes more come to the TAPE (of each number the highest first; bytes of 0 are left out):"
                + " how many it has.");
        ZoneLedger x = new ZoneLedger();
        doc.due("feed of sz5", x.feed(0x737A3500, 0, 0, 0, 0), 3);
        doc.due("text(0)", x.text(0), 5);
        doc.due("feed of s z 6 c 9, a number each", x.feed(0x73, 0x7A00, 0x360000, 0x63000000, 0x39), 5);
        doc.due("text(0)", x.text(0), 6);
        doc.due("rule(1)", x.rule(1), 9);
        doc.due("feed of nothing", x.feed(0, 0, 0, 0, 0), 0);
        doc.due("feed of s0w;0", x.feed(0x7300003B, 0, 0, 0, 0x00770000), 3);
        doc.due("fault(0)", x.fault(0), NONE);
        doc.due("feed of twenty bytes of 255", x.feed(-1, -1, -1, -1, -1), 23);
        doc.due("feed of a byte of 128", x.feed(0x80000000, 0, 0, 0, 0), 24);
        doc.due("feed of the last byte alone", x.feed(0, 0, 0, 0, 1), 25);
        doc.due("count(2)", x.count(2), 25);

        doc.says(2, "NONE: more than 240.");
        x = new ZoneLedger();
        for (int i = 1; i <= 12; i++) {
            doc.due("feed of twenty, " + i, x.feed(0x20202020, 0x20202020, 0x20202020, 0x20202020, 0x20202020), 20 * i);
        }
        doc.due("feed of one at 240", x.feed(0, 0, 0x20, 0, 0), NONE);
        doc.due("feed of nothing at 240", x.feed(0, 0, 0, 0, 0), 240);
        doc.due("fault(0)", x.fault(0), 240);
        x.end(239);
        doc.due("feed of two at 239", x.feed(0x73, 0, 0, 0, 0x73), NONE);
        doc.due("count(2): none of them came", x.count(2), 239);
        doc.due("feed of one at 239", x.feed(0, 0, 0, 0, 0x73), 240);
        doc.due("fault(0)", x.fault(0), NONE);
        x.end(220);
        doc.due("feed of twenty at 220", x.feed(0x20202020, 0x20202020, 0x20202020, 0x20202020, 0x20202020), 240);
        x.end(221);
        doc.due("feed of twenty at 221", x.feed(0x20202020, 0x20202020, 0x20202020, 0x20202020, 0x20202020), NONE);
        doc.due("feed of nineteen at 221", x.feed(0x20202020, 0x20202020, 0x20202020, 0x20202020, 0x202020), 240);
        for (int place = 0; place < 20; place++) {
            for (int sign : new int[] {1, 2, 128, 254, 255}) {
                byteAloneDue(place, sign);
            }
        }
        doc.refused("feed beyond 240", () -> withTape(240), y -> y.feed(0x41424344, 0, 0, 0, 0), NONE);
    }

    /** One byte, wherever it stands among the twenty, is one more: at 239 it comes, at 240 not. */
    private void byteAloneDue(int place, int sign) {
        int[] words = new int[5];
        words[place / 4] = sign << 24 - 8 * (place % 4);
        ZoneLedger x = full();
        doc.due("feed of " + sign + " at " + place + ", 240", x.feed(words[0], words[1], words[2], words[3], words[4]), NONE);
        x.end(239);
        doc.due("feed of " + sign + " at " + place + ", 239", x.feed(words[0], words[1], words[2], words[3], words[4]), 240);
    }

    private static ZoneLedger withTape(int length) {
        ZoneLedger x = Checks.drive("sz4c4;wk1v5;wk2");
        Checks.script(x, "p1=2;c");
        x.put(3, 3);
        x.image();
        Checks.feed(x, "w;".repeat(length / 2));
        return x;
    }

    private void ends() {
        doc.says(3, "The TAPE has its first n bytes alone.");
        ZoneLedger x = new ZoneLedger();
        Checks.feed(x, "sz7;wk1v2");
        doc.holds("end(9), all of it", x.end(9));
        doc.due("count(2)", x.count(2), 9);
        doc.holds("end(3)", x.end(3));
        doc.due("count(2)", x.count(2), 3);
        doc.due("feed behind it", x.feed(0x63310000, 0x35000000, 0, 0, 0), 6);
        doc.due("text(0)", x.text(0), 7);
        doc.due("rule(1)", x.rule(1), 15);
        doc.due("get(1)", x.get(1), NONE);
        doc.holds("end(0) of an empty one", x.end(0));
        Checks.feed(x, "s");
        doc.holds("end(0)", x.end(0));
        doc.due("count(2)", x.count(2), 0);

        doc.says(3, "False: n.");
        Checks.feed(x, "sz7");
        doc.holds("end(-1)", !x.end(-1));
        doc.holds("end(4)", !x.end(4));
        for (int n : Sentences.FAR_OFF) {
            doc.holds("end(" + n + ")", !x.end(n));
        }
        doc.due("count(2)", x.count(2), 3);
        doc.due("fault(0)", x.fault(0), NONE);
        x.end(2);
        doc.holds("end(3) of what was cut off", !x.end(3));
        doc.holds("end(241)", !full().end(241));
        doc.holds("end(240)", full().end(240));
        doc.refused("end(-1)", () -> withTape(6), y -> y.end(-1), NONE);
        doc.refused("end(7)", () -> withTape(6), y -> y.end(7), NONE);
    }

    private static ZoneLedger full() {
        return withTape(240);
    }

    private void faultSorts() {
        doc.says(4, "The FAULT of the TAPE as a DRIVE (0), a SCRIPT (1). NONE: none.");
        ZoneLedger x = new ZoneLedger();
        Checks.feed(x, "c;x");
        doc.due("fault(0) of 'c;x'", x.fault(0), 0);
        doc.due("fault(1) of 'c;x'", x.fault(1), NONE);
        Checks.feed(x, "sz3");
        doc.due("fault(0) of 'sz3'", x.fault(0), NONE);
        doc.due("fault(1) of 'sz3'", x.fault(1), 0);
        doc.due("count(2)", x.count(2), 3);

        doc.says(4, "-2: no such sort.");
        doc.due("fault(-1)", x.fault(-1), -2);
        doc.due("fault(2)", x.fault(2), -2);
        for (int sort : Sentences.FAR_OFF) {
            doc.due("fault(" + sort + ")", x.fault(sort), -2);
        }
        doc.due("fault(2) of nothing", new ZoneLedger().fault(2), -2);
    }

    // ---- the texts

    private void driveClauses() {
        doc.says(4, "A DRIVE is a TEXT: CLAUSES with ; between: s (its RULES; one at most)");
        allGood(DRIVE, "s", "w", "s;w", "w;s", "w;w;s;w");
        faultDue(DRIVE, "", 0);
        faultDue(DRIVE, ";", 0);
        faultDue(DRIVE, ";s", 0);
        faultDue(DRIVE, "s;;w", 2);
        faultDue(DRIVE, "sw", 1);
        faultDue(DRIVE, "ww", 1);
        for (int sign = 1; sign < 256; sign++) {
            if (sign != 's' && sign != 'w') {
                faultDue(DRIVE, "" + (char) sign, sign == ' ' ? 1 : 0);
            }
        }

        doc.says(4, "w (what is written first; none to 24), in any order");
        allGood(DRIVE, "s", "w;".repeat(23) + "w", "s;" + "w;".repeat(23) + "w", "w;".repeat(24) + "s",
                "w;".repeat(12) + "s;" + "w;".repeat(11) + "w");
        faultDue(DRIVE, "w;".repeat(24) + "w", 48);
        ZoneLedger x = Checks.drive("wk1v1;".repeat(23) + "wk2v2;sz8c16");
        doc.due("most(11) of 24", x.most(11), 24);
        doc.due("get(2) of the 24th", x.get(2), 2);
        doc.due("most(11) of none", Checks.drive("s").most(11), 0);
    }

    private void driveItems() {
        doc.says(4, "then ITEMS, none or more: a letter, each once at most in a CLAUSE");
        allGood(DRIVE, "s", "sz3", "sz3c2o1a1m1r1p0", "sp3r2m3a8o8c16z8", "w", "wk1", "wv1k1", "wk1;wk1;wk1");
        for (char letter : "zcoamrp".toCharArray()) {
            int good = letter == 'z' ? 3 : 2;
            faultDue(DRIVE, "s" + letter + good + letter + good, 3);
            faultDue(DRIVE, "w" + letter + good, 1);
        }
        faultDue(DRIVE, "sz3c2o1a1m1r1p0z3", 15);
        faultDue(DRIVE, "wk1k1", 3);
        faultDue(DRIVE, "wv1v1", 3);
        faultDue(DRIVE, "wk1v1k1", 5);
        faultDue(DRIVE, "sk1", 1);
        faultDue(DRIVE, "sv1", 1);
        for (int sign = 1; sign < 256; sign++) {
            if ("zcoamrp; ".indexOf(sign) < 0) {
                faultDue(DRIVE, "s" + (char) sign + "3", 1);
            }
        }

        doc.says(4, "and a number (one to three digits)");
        allGood(DRIVE, "sz3", "sz03", "sz003", "wv9", "wv99", "wv999");
        faultDue(DRIVE, "sz", 2);
        faultDue(DRIVE, "sz;", 2);
        faultDue(DRIVE, "szc2", 2);
        faultDue(DRIVE, "sz+3", 2);
        faultDue(DRIVE, "sz-3", 2);
        faultDue(DRIVE, "sz3.", 3);
        faultDue(DRIVE, "sz/", 2);
        faultDue(DRIVE, "sz:", 2);
        faultDue(DRIVE, "sz0003", 5);
    }

    private void ruleBounds() {
        ruleDue("of s: z ZONES (3 .. 8; 4 without)", 'z', 0, 3, 8, 4);
        ruleDue("c CAPACITY (2 .. 16; 8)", 'c', 1, 2, 16, 8);
        ruleDue("o OPEN ones at most (1 .. 8; 2)", 'o', 2, 1, 8, 2);
        ruleDue("a ACTIVE ones at most (1 .. 8; 3)", 'a', 3, 1, 8, 3);
        ruleDue("m STREAMS (1 .. 3; 1)", 'm', 4, 1, 3, 1);
        ruleDue("r RESERVE (1, 2; 1)", 'r', 5, 1, 2, 1);
        ruleDue("p POLICY (0 .. 3; 0)", 'p', 6, 0, 3, 0);
    }

    private void ruleDue(String sentence, char letter, int what, int least, int most, int without) {
        doc.says(6, sentence);
        boundsDue(DRIVE, "s" + letter, "", least, most);
        boundsDue(DRIVE, "w;s" + letter, " ;w", least, most);
        doc.due("rule(" + what + ") without", Checks.drive("s").rule(what), without);
        doc.due("rule(" + what + ") without an s", Checks.drive("w").rule(what), without);
        for (int n = least; n <= most; n++) {
            // OPEN ones go no further than ACTIVE ones, so these are told, too.
            String text = letter == 'a' ? "sa" + n : "sa8" + letter + n;
            doc.due("rule(" + what + ") of " + text, Checks.drive(text).rule(what), n);
        }
        if (letter == 'z') {
            for (int n = least; n <= most; n++) {
                ZoneLedger x = new ZoneLedger();
                Checks.feed(x, "sz" + n);
                doc.due("text(0) of sz" + n, x.text(0), n);
            }
        }
    }

    private void writeBounds() {
        doc.says(5, "of w: k KEY (0 .. 31; 0)");
        boundsDue(DRIVE, "wk", "", 0, 31);
        boundsDue(DRIVE, "wv7k", ";s", 0, 31);
        doc.due("get(0) of wv7", Checks.drive("wv7").get(0), 7);
        doc.due("get(31) of wk31v7", Checks.drive("wk31v7").get(31), 7);
        doc.due("get(0) of wk0v7", Checks.drive("wk0v7").get(0), 7);
        // What one w told is not told by the next.
        ZoneLedger x = Checks.drive("wk5v9;w;wk6");
        doc.due("get(5)", x.get(5), 9);
        doc.due("get(0)", x.get(0), 0);

        doc.says(5, "v VALUE (0 .. 999; 0)");
        boundsDue(DRIVE, "wv", "", 0, 999);
        faultDue(DRIVE, "wv1000", 5);
        doc.due("get(6) of wk6", x.get(6), 0);
        doc.due("get(1) of wk1v999", Checks.drive("wk1v999").get(1), 999);
        doc.due("get(1) of wk1v0", Checks.drive("wk1v0").get(1), 0);
    }

    private void scriptSteps() {
        doc.says(5, "SCRIPTS (4 at most) are TEXTS: STEPS with ; between, 1 to 16");
        ZoneLedger x = new ZoneLedger();
        for (int i = 0; i < 4; i++) {
            doc.due("text(1)", Checks.script(x, "d" + i), i);
        }
        doc.due("text(1) of a fifth", Checks.script(x, "d4"), NONE);
        doc.due("count(1)", x.count(1), 4);
        allGood(SCRIPT, "c", "c;c", "c;".repeat(15) + "c");
        faultDue(SCRIPT, "", 0);
        faultDue(SCRIPT, ";", 0);
        faultDue(SCRIPT, "cc", 1);
        faultDue(SCRIPT, "c;;c", 2);
        faultDue(SCRIPT, "c;".repeat(16) + "c", 31);
        x = new ZoneLedger();
        Checks.script(x, "x;".repeat(15) + "d31");
        doc.due("step(0, 15, 1)", x.step(0, 15, 1), 31);
        doc.due("step(0, 16, 1)", x.step(0, 16, 1), HIDDEN);
        for (int sign = 1; sign < 256; sign++) {
            if ("cx ".indexOf(sign) < 0) {
                faultDue(SCRIPT, "" + (char) sign, "pdolfry".indexOf(sign) < 0 ? 0 : 1);
            }
        }

        doc.says(4, "p and a number (0 .. 31), =, a number (0 .. 999): PUT");
        boundsDue(SCRIPT, "p", "=0", 0, 31);
        boundsDue(SCRIPT, "p31=", "", 0, 999);
        boundsDue(SCRIPT, "p0 =", ";c", 0, 999);
        faultDue(SCRIPT, "p=1", 1);
        faultDue(SCRIPT, "p1;c", 2);
        faultDue(SCRIPT, "p1=;c", 3);
        faultDue(SCRIPT, "p1=1=1", 4);
        faultDue(SCRIPT, "p1=1000", 6);

        doc.says(4, "d and a number (0 .. 31): DELETE");
        boundsDue(SCRIPT, "d", "", 0, 31);
        faultDue(SCRIPT, "d;c", 1);
        faultDue(SCRIPT, "d1=1", 2);

        doc.says(4, "c: CLEAN; x: CRASH");
        allGood(SCRIPT, "c", "x", "c;x");
        faultDue(SCRIPT, "c1", 1);
        faultDue(SCRIPT, "x0", 1);
        digitSteps();
    }

    private void digitSteps() {
        doc.says(4, "o, l, f, r, each with a digit: OPEN, CLOSE, FINISH, RESET a ZONE");
        for (char letter : "olfr".toCharArray()) {
            digitDue(letter);
        }
        doc.says(4, "y and a digit: that POLICY is set.");
        digitDue('y');
    }

    private void digitDue(char letter) {
        for (int digit = 0; digit < 10; digit++) {
            faultDue(SCRIPT, "" + letter + digit, NONE);
            faultDue(SCRIPT, "" + letter + digit + digit, 2);
        }
        faultDue(SCRIPT, "" + letter, 1);
        faultDue(SCRIPT, letter + ";c", 1);
        faultDue(SCRIPT, letter + "-1", 1);
        faultDue(SCRIPT, letter + "/", 1);
        faultDue(SCRIPT, letter + ":", 1);
    }

    private void blanks() {
        doc.says(4, "Blanks (32) may stand between all signs of both, not within a number.");
        blanksDue(DRIVE, "sz3c4;wk5v6;w");
        blanksDue(SCRIPT, "p1=2;d3;c;x;o4;l5;f6;r7;y8");
        faultDue(DRIVE, " s  z  8  c  16 ;  w  k  31  v  999 ", NONE);
        faultDue(SCRIPT, "  p  31  =  999  ;  d  0  ;  c  ", NONE);
        faultDue(DRIVE, "wk3 1", 4);
        faultDue(DRIVE, "wv99 9", 5);
        faultDue(DRIVE, "wv9   99", 6);
        faultDue(DRIVE, "sc1 6", 2);
        faultDue(SCRIPT, "p3 1=1", 3);
        faultDue(SCRIPT, "p31=9 9", 6);
        faultDue(SCRIPT, "d1 1", 3);
        // No other sign is a blank.
        for (int sign : new int[] {8, 9, 10, 11, 12, 13, 31, 33, 160}) {
            faultDue(DRIVE, "s" + (char) sign, 1);
            faultDue(SCRIPT, "c" + (char) sign, 1);
        }
    }

    /** A text whose numbers have one digit each: a blank may stand anywhere in it. */
    private void blanksDue(int sort, String text) {
        for (int at = 0; at <= text.length(); at++) {
            faultDue(sort, text.substring(0, at) + " " + text.substring(at), NONE);
            faultDue(sort, text.substring(0, at) + "   " + text.substring(at), NONE);
        }
    }

    private void endsTooEarly() {
        doc.says(4, "FAULT: the first byte at which no such TEXT can go on (the length, if it ends too early)");
        for (String text : new String[] {"", "s;", "sz", "sz3c", "w;", "wk", "wk1v", "s;w;", "w;".repeat(24)}) {
            faultDue(DRIVE, text, text.length());
            faultDue(DRIVE, text + "  ", text.length() + 2);
        }
        for (String text : new String[] {"", "p", "p1", "p1=", "d", "o", "l", "f", "r", "y", "c;", "c;".repeat(15)}) {
            faultDue(SCRIPT, text, text.length());
            faultDue(SCRIPT, text + " ", text.length() + 1);
        }
        // The first, where there are several.
        faultDue(DRIVE, "sz9c99;x", 2);
        faultDue(SCRIPT, "p32=1000;z", 2);
        faultDue(DRIVE, "x;sz9", 0);
    }

    private void numbersOutOfBounds() {
        doc.says(4, "a number out of bounds is wrong at its last digit");
        faultDue(DRIVE, "sz2", 2);
        faultDue(DRIVE, "sz02c4", 3);
        faultDue(DRIVE, "sz009;w", 4);
        faultDue(DRIVE, "sz10", 3);
        faultDue(DRIVE, "sz999", 4);
        faultDue(DRIVE, "sz999x", 4);
        faultDue(DRIVE, "sz  9", 4);
        faultDue(SCRIPT, "p032=1", 3);
        faultDue(SCRIPT, "d99;c", 2);

        doc.says(4, "a fourth digit itself, whatever stands ahead of it");
        faultDue(DRIVE, "sz0003", 5);
        faultDue(DRIVE, "sz9999", 5);
        faultDue(DRIVE, "sz00003", 5);
        faultDue(DRIVE, "sz12345678", 5);
        faultDue(DRIVE, "wk0000", 5);
        faultDue(DRIVE, "wk3200", 5);
        faultDue(DRIVE, "wv1000", 5);
        faultDue(SCRIPT, "p0001=1", 4);
        faultDue(SCRIPT, "p9999=1", 4);
        faultDue(SCRIPT, "p1=0000", 6);
        faultDue(SCRIPT, "d0000", 4);
        faultDue(SCRIPT, "d9999", 4);
    }

    private void lettersOnceMore() {
        doc.says(4, "a letter that was there");
        faultDue(DRIVE, "sz3z", 3);
        faultDue(DRIVE, "sz3 z9", 4);
        faultDue(DRIVE, "sz3c2z", 5);
        faultDue(DRIVE, "wk1k", 3);
        doc.says(4, "a second s");
        faultDue(DRIVE, "s;s", 2);
        faultDue(DRIVE, "s; s", 3);
        faultDue(DRIVE, "w;s;w;s", 6);
        faultDue(DRIVE, "s;" + "w;".repeat(24) + "s", 50);
        doc.says(4, "a 25th w");
        faultDue(DRIVE, "w;".repeat(24) + "w", 48);
        faultDue(DRIVE, "s;" + "w;".repeat(24) + "w", 50);
        faultDue(DRIVE, "w;".repeat(24) + "s;w", 50);
        faultDue(DRIVE, "w;".repeat(24) + " w", 49);
        faultDue(DRIVE, "s;" + "w;".repeat(24) + "  w", 52);
        faultDue(DRIVE, "s;" + "w;".repeat(24) + "  ", 52);
        doc.says(4, "the ; ahead of a 17th STEP.");
        faultDue(SCRIPT, "c;".repeat(16), 31);
        faultDue(SCRIPT, "c;".repeat(15) + "c ;c", 32);
        faultDue(SCRIPT, "c;".repeat(15) + "c  z", 33);
        faultDue(SCRIPT, "c;".repeat(15) + "c  ", NONE);
        faultDue(SCRIPT, "p1=1;".repeat(16), 79);
    }

    private void stepsThatCannotBe() {
        doc.says(4, "(What a STEP tells that can't be is no FAULT.)");
        allGood(SCRIPT, "o8", "l9", "f9", "r9", "y4", "y9", "d31", "o0;o0", "y0;y0");
        ZoneLedger x = Checks.drive("s");
        doc.due("text(1)", Checks.script(x, "y1;o9"), 0);
        doc.due("perform(0)", x.perform(0), 1);
    }

    // ---- 5

    private void tellings() {
        doc.says(5, "The TAPE (empty then) is the DRIVE (all that was of another one is gone but SCRIPTS, STATUS): how"
                + " many ZONES; a SCRIPT: its number.");
        ZoneLedger x = Checks.drive("sz8c16o4a5m3r2p1;wk1v1;wk1v2");
        Checks.script(x, "p1=1");
        x.put(1, 3);
        x.put(32, 3);
        x.open(5);
        x.finish(5);
        x.reset(5);
        x.image();
        Checks.feed(x, "sz3");
        doc.due("text(0)", x.text(0), 3);
        doc.due("count(2)", x.count(2), 0);
        doc.same("another DRIVE is as if it were the first", Snapshot.ofDrive(x), Snapshot.ofDrive(Checks.drive("sz3")));
        doc.due("count(4)", x.count(4), 0);
        doc.due("undo()", x.undo(), NONE);
        doc.due("back()", x.back(), NONE);
        doc.due("count(1)", x.count(1), 1);
        doc.due("step(0, 0, 1)", x.step(0, 0, 1), 1);
        doc.statusDue(x, 1, 0, 0, 0);
        doc.due("text(1)", Checks.script(x, "c"), 1);
        doc.due("count(2)", x.count(2), 0);
        doc.due("text(1) without a DRIVE", Checks.script(new ZoneLedger(), "c"), 0);

        doc.says(5, "NONE: a FAULT (the TAPE stays), no such sort, there are four SCRIPTS.");
        doc.due("text(0) of nothing", new ZoneLedger().text(0), NONE);
        doc.due("text(1) of nothing", new ZoneLedger().text(1), NONE);
        doc.refused("text(0) with a FAULT", () -> withTape(6), y -> doc.due("text(0)", y.text(0), NONE), NONE);
        doc.refused("text(1) with a FAULT", () -> withTape(6), y -> doc.due("text(1)", y.text(1), NONE), NONE);
        int[] sorts = {-1, 2, Integer.MIN_VALUE, Integer.MAX_VALUE};
        for (int sort : sorts) {
            doc.refused("text(" + sort + ")", () -> withText("sz3"), y -> doc.due("text", y.text(sort), NONE), NONE);
        }
        doc.refused("text(1) of a fifth", TextBoundaries::withFour, y -> doc.due("text(1)", y.text(1), NONE), NONE);
    }

    private static ZoneLedger withText(String text) {
        ZoneLedger x = withTape(0);
        Checks.feed(x, text);
        return x;
    }

    private static ZoneLedger withFour() {
        ZoneLedger x = withTape(0);
        for (int i = 1; i < 4; i++) {
            Checks.script(x, "d" + i);
        }
        Checks.feed(x, "x");
        return x;
    }

    private void firstWrites() {
        doc.says(5, "A DRIVE that is told: what is written first is PUT, in order (no ACTS, but in the LOG); what can't"
                + " be is left out.");
        // Zone 0 has 1 and 1, zone 1 has 2 and 3; for 4 zone 0 is cleaned: 1 and 4 fill zone 2, all of which lives.
        ZoneLedger x = Checks.drive("wk1v1;wk1v2;sz3c2;wk2v3;wk3v4;wk4v5;wk5v6;wk1v7;wk6v8");
        doc.due("get(1), the later", x.get(1), 2);
        doc.due("get(4)", x.get(4), 5);
        doc.due("get(5)", x.get(5), NONE);
        doc.due("get(6)", x.get(6), NONE);
        doc.due("key(4, 0)", x.key(4, 0), 33);
        doc.due("key(4, 1)", x.key(4, 1), 5);
        doc.due("most(15)", x.most(15), 5);
        doc.due("count(4)", x.count(4), 0);
        doc.due("undo()", x.undo(), NONE);
        doc.statusDue(x, 0, 0, 0, 0);
        doc.due("count(3)", x.count(3), 7);
        doc.logDue(x, 0, 0, 2, 33);
        doc.logDue(x, 1, 2, 0, 1);
        doc.logDue(x, 2, 1, 2, 32);
        doc.logDue(x, 6, 0, 0, 0);
        // 4 can't be, as all in the last STREAM's FULL ZONE lives; behind it 1 goes to the ZONE of STREAM 0.
        x = Checks.drive("sz3c2m2;wk1;wk2;wk1;wk3;wk4;wk1v9");
        doc.due("get(4)", x.get(4), NONE);
        doc.due("get(1)", x.get(1), 9);
        doc.due("key(1, 0)", x.key(1, 0), 17);
        doc.due("key(1, 1)", x.key(1, 1), 5);
    }
}
