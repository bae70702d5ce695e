/** What the tests share: answers that are due, and TAPES out of texts. */
final class Checks {
    private int wrong;
    private int made;

    void due(String call, long got, long want) {
        made++;
        if (got != want) {
            wrong++;
            if (wrong <= 50) {
                System.out.println(call + " answered " + got + ", due is " + want);
            }
        }
    }

    void holds(String what, boolean so) {
        due(what, so ? 1 : 0, 1);
    }

    /** Ends the test: with exit code 1, if an answer was not as due. */
    void finish() {
        System.out.println(made + " checks, " + wrong + " wrong");
        if (wrong != 0 || made == 0) {
            System.exit(1);
        }
    }

    static int wrongSoFar(Checks checks) {
        return checks.wrong;
    }

    /** Feeds a text in front of which the TAPE is cleared. */
    static void feed(ZoneLedger ledger, String text) {
        ledger.end(0);
        for (int at = 0; at < text.length(); at += 20) {
            ledger.feed(word(text, at), word(text, at + 4), word(text, at + 8), word(text, at + 12), word(text, at + 16));
        }
    }

    static int word(String text, int at) {
        int word = 0;
        for (int i = at; i < at + 4; i++) {
            word = word << 8 | (i < text.length() ? text.charAt(i) & 255 : 0);
        }
        return word;
    }

    static ZoneLedger drive(String text) {
        ZoneLedger ledger = new ZoneLedger();
        feed(ledger, text);
        if (ledger.text(0) < 0) {
            throw new IllegalStateException("no drive: " + text);
        }
        return ledger;
    }

    static int script(ZoneLedger ledger, String text) {
        feed(ledger, text);
        return ledger.text(1);
    }
}
