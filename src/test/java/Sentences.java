import java.io.IOException;
import java.nio.file.Files;
import java.nio.file.Path;
import java.util.NoSuchElementException;
import java.util.function.Consumer;
import java.util.function.Supplier;

/**
 * Checks that stand each under a sentence of the document. A sentence is named by its promise and its words; in the end
 * the document itself is held against them: it must have each of them, and all that it says must stand in one.
 */
final class Sentences {
    static final int NONE = ZoneLedger.NONE;
    static final int HIDDEN = ZoneLedger.HIDDEN;
    static final int THROWS = Integer.MIN_VALUE;
    /** What no argument may be, wherever few numbers are right. */
    static final int[] FAR_OFF = {Integer.MIN_VALUE, -1000000, 1000000, Integer.MAX_VALUE};

    private static final Path DOCUMENT = Path.of("../shared/DOC.md");
    private static final int PROMISES = 47;

    private final Checks checks = new Checks();
    private String document;
    private boolean[] quoted;
    private String heading = "";
    private int madeUnderHeading = 1;

    Sentences() {
        read();
    }

    private void read() {
        try {
            document = Files.readString(DOCUMENT).replaceAll("\\s+", " ");
        } catch (IOException e) {
            System.out.println("the document is not there: its words are not looked at");
            document = null;
            return;
        }
        quoted = new boolean[document.length()];
    }

    /** What is checked from here on stands under this sentence. */
    void says(int promise, String sentence) {
        checks.holds("something is checked under " + heading, madeUnderHeading > 0);
        heading = "promise " + promise + ", \"" + sentence + "\"";
        madeUnderHeading = 0;
        if (document == null) {
            return;
        }
        int from = startOf(promise);
        int at = document.indexOf(sentence, from);
        if (at < 0 || at >= endOf(promise)) {
            at = document.indexOf(sentence);
            boolean inTerms = at >= 0 && at < document.indexOf("## Promise 1:");
            checks.holds("the document says: " + heading, inTerms);
        }
        for (int i = 0; at >= 0 && i < sentence.length(); i++) {
            quoted[at + i] = true;
        }
    }

    private int startOf(int promise) {
        return document.indexOf("## Promise " + promise + ":");
    }

    private int endOf(int promise) {
        int end = promise < PROMISES ? startOf(promise + 1) : document.indexOf("## Not promised");
        return end < 0 ? document.length() : end;
    }

    void due(String call, long got, long want) {
        madeUnderHeading++;
        checks.due(heading + ": " + call, got, want);
    }

    void holds(String what, boolean so) {
        due(what, so ? 1 : 0, 1);
    }

    void same(String what, String got, String want) {
        holds(what + (got.equals(want) ? "" : "\n  is  " + got + "\n  not " + want + "\n "), got.equals(want));
    }

    void zoneDue(ZoneLedger x, int zone, int what, int want) {
        due("zone(" + zone + ", " + what + ")", zone(x, zone, what), want);
    }

    void statesDue(ZoneLedger x, int... want) {
        for (int zone = 0; zone < want.length; zone++) {
            zoneDue(x, zone, 0, want[zone]);
        }
    }

    void statusDue(ZoneLedger x, int... want) {
        for (int what = 0; what < 4; what++) {
            due("status(" + what + ")", x.status(what), want[what]);
        }
    }

    void logDue(ZoneLedger x, int i, int sort, int zone, int amount) {
        due("log(" + i + ", 0)", x.log(i, 0), sort);
        due("log(" + i + ", 1)", x.log(i, 1), zone);
        due("log(" + i + ", 2)", x.log(i, 2), amount);
    }

    /**
     * A call that is refused: it answers as told, counts in one STATUS (or in none: NONE), and leaves an object as it
     * is that was made alike and not called so, in what can be seen and in what later calls show.
     */
    void refused(String how, Supplier<ZoneLedger> maker, Consumer<ZoneLedger> call, int status) {
        ZoneLedger called = maker.get();
        ZoneLedger other = maker.get();
        int[] before = new int[4];
        for (int what = 0; what < 4; what++) {
            before[what] = called.status(what);
        }
        call.accept(called);
        for (int what = 0; what < 4; what++) {
            due(how + ", status(" + what + ")", called.status(what), before[what] + (what == status ? 1 : 0));
        }
        same(how + " leaves all as it is", Snapshot.of(called), Snapshot.of(other));
        same(how + " leaves what follows as it is", Snapshot.ofWhatFollows(called), Snapshot.ofWhatFollows(other));
    }

    static int zone(ZoneLedger x, int zone, int what) {
        try {
            return x.zone(zone, what);
        } catch (NoSuchElementException e) {
            return THROWS;
        }
    }

    void finish() {
        checks.holds("something is checked under " + heading, madeUnderHeading > 0);
        if (document != null) {
            allIsQuoted();
        }
        checks.finish();
    }

    /** From the Terms to the last promise no words are left that stand in no sentence named here. */
    private void allIsQuoted() {
        leaveOut("```text");
        for (int part = 2; part <= 4; part++) {
            leaveOut("==== " + part + ".");
        }
        for (int promise = 1; promise <= PROMISES; promise++) {
            int from = startOf(promise);
            mark(from, document.indexOf("`: ", from));
        }
        mark(document.indexOf("The constants: `NONE"), document.indexOf("`: None"));
        int from = document.indexOf("## Terms") + "## Terms".length();
        int end = document.indexOf("## Not promised");
        StringBuilder left = new StringBuilder();
        for (int at = from; at < end; at++) {
            if (quoted[at]) {
                said(left);
            } else {
                left.append(document.charAt(at));
            }
        }
        said(left);
    }

    private void said(StringBuilder left) {
        if (left.chars().anyMatch(Character::isLetterOrDigit)) {
            checks.holds("a sentence with '" + left + "' is checked", false);
        }
        left.setLength(0);
    }

    private void leaveOut(String mark) {
        for (int at = document.indexOf(mark); at >= 0; at = document.indexOf(mark, at + 1)) {
            mark(at, at + mark.length());
        }
    }

    private void mark(int from, int end) {
        for (int at = Math.max(from, 0); at < Math.min(end, quoted.length); at++) {
            quoted[at] = true;
        }
    }
}
