import java.util.Arrays;
import java.util.NoSuchElementException;

/** A drive of zones written at their pointers alone, and a table of keys that is nothing but what was appended. */
public final class ZoneLedger {
    public static final int NONE = -1;
    public static final int HIDDEN = -1000000;

    private static final int NO_SUCH_SORT = -2;

    // What an ACT answers that is refused: the STATUS it counts in is REFUSED less it.
    private static final int REFUSED = -1;
    private static final int NO_SUCH = -1;
    private static final int OUT_OF_BOUNDS = -2;
    private static final int NOT_SO = -3;
    private static final int TOO_MUCH = -4;

    private static final int MOST_ZONES = 8;
    private static final int MOST_CAPACITY = 16;
    private static final int MOST_STREAMS = 3;
    private static final int PLACES = 128;
    private static final int KEYS = 32;
    private static final int VALUES = 1000;
    private static final int POLICIES = 4;
    private static final int MOST_SCRIPTS = 4;
    private static final int MOST_STEPS = 16;
    private static final int MOST_WRITES = 24;
    private static final int MOST_PUTS = 200;
    private static final int MOST_YEARS = 40;
    private static final int KINDS_OF_YEAR = 8;

    // Where a rule stands in the row of RULES, as rule() tells them.
    private static final int ZONES = 0;
    private static final int CAPACITY = 1;
    private static final int MOST_OPEN = 2;
    private static final int MOST_ACTIVE = 3;
    private static final int STREAMS = 4;
    private static final int RESERVE = 5;
    private static final int POLICY = 6;
    private static final int RULES = 7;

    // What is counted; the first five in the order in which most() tells them from 11 on.
    private static final int WRITTEN = 0;
    private static final int MOVED = 1;
    private static final int CLEANINGS = 2;
    private static final int CRASHES = 3;
    private static final int NUMBER = 4;
    private static final int CLOCK = 5;
    private static final int CLOSED_FOR_WANT = 6;
    private static final int FINISHED_FOR_WANT = 7;
    private static final int TALLIES = 8;
    private static final int FIRST_TALLY_TOLD = 11;

    private static final int EMPTY = 0;
    private static final int OPEN = 1;
    private static final int CLOSED = 2;
    private static final int FULL = 3;

    private static final int PUT_STEP = 0;
    private static final int DELETE_STEP = 1;
    private static final int CLEAN_STEP = 2;
    private static final int CRASH_STEP = 3;
    private static final int OPEN_STEP = 4;
    private static final int CLOSE_STEP = 5;
    private static final int FINISH_STEP = 6;
    private static final int RESET_STEP = 7;
    private static final int POLICY_STEP = 8;

    private final Tape tape = new Tape();
    private final Reader reader = new Reader(tape);
    private final Script[] scripts = new Script[MOST_SCRIPTS];
    private int scriptsTold;
    private final Drive now = new Drive();
    private final Drive spare = new Drive();
    private final Drive kept = new Drive();
    private boolean isKept;
    private final Trial trial = new Trial(spare);
    private final History history = new History();
    private final Draw draw = new Draw();
    private final int[] refusals = new int[4];

    public ZoneLedger() {
        for (int i = 0; i < MOST_SCRIPTS; i++) {
            scripts[i] = new Script();
        }
    }

    // ---- the TAPE and the texts

    public int feed(int a, int b, int c, int d, int e) {
        int more = Tape.signsIn(a) + Tape.signsIn(b) + Tape.signsIn(c) + Tape.signsIn(d) + Tape.signsIn(e);
        if (tape.length + more > Tape.MOST) {
            return NONE;
        }
        tape.addSigns(a);
        tape.addSigns(b);
        tape.addSigns(c);
        tape.addSigns(d);
        tape.addSigns(e);
        return tape.length;
    }

    public boolean end(int n) {
        if (n < 0 || n > tape.length) {
            return false;
        }
        tape.length = n;
        return true;
    }

    public int fault(int sort) {
        if (sort == 0) {
            return reader.readDrive();
        }
        return sort == 1 ? reader.readScript() : NO_SUCH_SORT;
    }

    public int text(int sort) {
        if (sort == 0) {
            return tellDrive();
        }
        return sort == 1 ? tellScript() : NONE;
    }

    private int tellDrive() {
        if (reader.readDrive() != NONE) {
            return NONE;
        }
        tape.length = 0;
        history.forget();
        isKept = false;
        now.begin(reader.rules);
        for (int i = 0; i < reader.writes; i++) {
            now.write(reader.keys[i], reader.values[i], spare);
        }
        return now.rules[ZONES];
    }

    private int tellScript() {
        if (scriptsTold >= MOST_SCRIPTS || reader.readScript() != NONE) {
            return NONE;
        }
        tape.length = 0;
        scripts[scriptsTold].copyFrom(reader.script);
        scriptsTold++;
        return scriptsTold - 1;
    }

    // ---- what is there

    private boolean isDrive() {
        return now.rules[ZONES] > 0;
    }

    private static boolean isPolicy(int policy) {
        return policy >= 0 && policy < POLICIES;
    }

    private boolean isScript(int script) {
        return script >= 0 && script < scriptsTold;
    }

    public int rule(int what) {
        return isDrive() && what >= 0 && what < RULES ? now.rules[what] : NONE;
    }

    public int zone(int zone, int what) throws NoSuchElementException {
        if (!now.hasZone(zone) || what < 0 || what > 7) {
            throw new NoSuchElementException();
        }
        switch (what) {
            case 0:
                return now.states[zone];
            case 1:
                return now.pointers[zone];
            case 2:
                return now.liveIn(zone);
            case 3:
                return now.deadIn(zone);
            case 4:
                return now.resets[zone];
            case 5:
                return now.ageOf(zone);
            case 6:
                return now.streamOf(zone);
            default:
                return now.scoreOf(zone, now.rules[POLICY]);
        }
    }

    public int block(int zone, int i, int what) {
        if (!now.hasZone(zone) || i < 0 || i >= now.pointers[zone]) {
            return HIDDEN;
        }
        int place = zone * MOST_CAPACITY + i;
        switch (what) {
            case 0:
                return now.keys[place];
            case 1:
                return now.values[place];
            case 2:
                return now.numbers[place];
            case 3:
                return now.isLive(place) ? 1 : 0;
            default:
                return HIDDEN;
        }
    }

    public int get(int key) {
        return now.valueOf(key);
    }

    public int key(int key, int what) {
        if (!now.hasKey(key)) {
            return NONE;
        }
        switch (what) {
            case 0:
                return now.latest[key];
            case 1:
                return now.latestNumber(key);
            case 2:
                return now.streamFor(key);
            case 3:
                return now.copies[key];
            default:
                return NONE;
        }
    }

    public int next(int key) {
        if (key < 0) {
            return NONE;
        }
        for (int k = key; k < KEYS; k++) {
            if (now.valueOf(k) != NONE) {
                return k;
            }
        }
        return NONE;
    }

    public int range(int a, int b, int what) {
        if (!now.hasKey(a) || !now.hasKey(b) || b < a || what < 0 || what > 1) {
            return NONE;
        }
        int found = 0;
        int sum = 0;
        for (int k = a; k <= b; k++) {
            int value = now.valueOf(k);
            if (value != NONE) {
                found++;
                sum += value;
            }
        }
        return what == 0 ? found : sum;
    }

    public int stream(int stream) {
        return now.hasStream(stream) ? now.homes[stream] : NONE;
    }

    // ---- ACTS by hand

    /** Counts a refusal, or keeps the ACT so that it can be UNDONE. */
    private int settle(int answer) {
        if (answer >= 0) {
            history.commit();
            return answer;
        }
        int status = REFUSED - answer;
        if (status < refusals.length) {
            refusals[status]++;
        }
        return NONE;
    }

    public int put(int key, int value) {
        if (now.hasKey(key) && (value < 0 || value >= VALUES)) {
            return settle(OUT_OF_BOUNDS);
        }
        history.prepare(now);
        return settle(now.write(key, value, spare));
    }

    public int delete(int key) {
        history.prepare(now);
        return settle(now.write(key, NONE, spare));
    }

    public int clean() {
        history.prepare(now);
        return settle(now.cleanByHand());
    }

    public int crash() {
        history.prepare(now);
        return settle(now.crashByHand());
    }

    public int open(int zone) {
        history.prepare(now);
        return settle(now.openByHand(zone));
    }

    public int close(int zone) {
        history.prepare(now);
        return settle(now.closeByHand(zone));
    }

    public int finish(int zone) {
        history.prepare(now);
        return settle(now.finishByHand(zone));
    }

    public int reset(int zone) {
        history.prepare(now);
        return settle(now.resetByHand(zone));
    }

    public int policy(int policy) {
        history.prepare(now);
        return settle(now.choosePolicy(policy));
    }

    /** One ACT told by numbers, on the drive or on a trial of it. */
    private int act(Drive drive, int what, int first, int value) {
        switch (what) {
            case PUT_STEP:
            case DELETE_STEP:
                return drive.write(first, value, spare);
            case CLEAN_STEP:
                return drive.cleanByHand();
            case CRASH_STEP:
                return drive.crashByHand();
            case OPEN_STEP:
                return drive.openByHand(first);
            case CLOSE_STEP:
                return drive.closeByHand(first);
            case FINISH_STEP:
                return drive.finishByHand(first);
            case RESET_STEP:
                return drive.resetByHand(first);
            case POLICY_STEP:
                return drive.choosePolicy(first);
            default:
                return NO_SUCH;
        }
    }

    public int years(int n, long seed) {
        if (!isDrive() || n < 1 || n > MOST_YEARS) {
            return NONE;
        }
        draw.seed = seed;
        for (int i = 0; i < n; i++) {
            history.prepare(now);
            if (actOfYear(draw.below(KINDS_OF_YEAR)) >= 0) {
                history.commit();
            }
        }
        return now.tallies[NUMBER];
    }

    private int actOfYear(int kind) {
        switch (kind) {
            case 5:
                return now.write(draw.below(KEYS), NONE, spare);
            case 6:
                return now.cleanByHand();
            case 7:
                return now.finishByHand(draw.below(now.rules[ZONES]));
            default:
                int key = draw.below(KEYS);
                return now.write(key, draw.below(VALUES), spare);
        }
    }

    public int status(int what) {
        return what >= 0 && what < refusals.length ? refusals[what] : NONE;
    }

    public int undo() {
        if (history.acts == 0) {
            return NONE;
        }
        history.takeBack(now);
        return history.acts;
    }

    public int log(int i, int what) {
        return now.logbook.entry(i, what);
    }

    // ---- SCRIPTS

    public int step(int script, int i, int what) {
        return isScript(script) ? scripts[script].part(i, what) : HIDDEN;
    }

    public int run(int script, int what) {
        if (!isScript(script) || !isDrive() || what < 0 || what > 1) {
            return HIDDEN;
        }
        Script steps = scripts[script];
        Drive apart = trial.drive;
        apart.copyFrom(now);
        int done = 0;
        while (done < steps.length
                && act(apart, steps.whats[done], steps.firsts[done], steps.values[done]) >= 0) {
            done++;
        }
        if (what == 1) {
            return apart.appended() - now.appended();
        }
        return done == steps.length ? NONE : done;
    }

    public int perform(int script) {
        if (!isScript(script) || !isDrive()) {
            return NONE;
        }
        Script steps = scripts[script];
        for (int i = 0; i < steps.length; i++) {
            history.prepare(now);
            if (act(now, steps.whats[i], steps.firsts[i], steps.values[i]) < 0) {
                return i;
            }
            history.commit();
        }
        return steps.length;
    }

    // ---- what would be, apart

    public int torn(int k, int what) {
        if (!isDrive() || k < 0 || what < 0 || what > 2) {
            return NONE;
        }
        int zone = now.zoneToClean();
        if (zone == NONE || !now.hasRoomFor(zone) || k > now.liveIn(zone)) {
            return NONE;
        }
        Drive apart = trial.drive;
        apart.copyFrom(now);
        apart.moveLive(zone, k);
        apart.crashByHand();
        if (what == 0) {
            return Survey.otherValues(now, apart);
        }
        return what == 1 ? Survey.twice(apart) : apart.countOf(EMPTY);
    }

    public int order(int policy, int i) {
        return isDrive() && isPolicy(policy) ? Survey.zoneByRank(now, policy, i) : NONE;
    }

    public int score(int zone, int policy) {
        return now.hasZone(zone) && isPolicy(policy) ? now.scoreOf(zone, policy) : NONE;
    }

    public int cost(int key) {
        Drive apart = trial.drive;
        apart.copyFrom(now);
        return apart.write(key, 0, spare) < 0 ? NONE : apart.appended() - now.appended();
    }

    private boolean canTry(int n) {
        return isDrive() && n >= 1 && n <= MOST_PUTS;
    }

    public int growth(int policy, int n, long seed, int what) {
        if (!canTry(n) || !isPolicy(policy) || what < 0 || what > 2) {
            return NONE;
        }
        trial.beginWith(now, policy);
        trial.grow(n, seed);
        return trial.found(what);
    }

    public int best(int n, long seed) {
        if (!canTry(n)) {
            return NONE;
        }
        trial.beginContest();
        int best = 0;
        for (int policy = 0; policy < POLICIES; policy++) {
            trial.beginWith(now, policy);
            trial.grow(n, seed);
            if (trial.takesLead()) {
                best = policy;
            }
        }
        return best;
    }

    public int strain(int o, int a, int n, long seed, int what) {
        if (!canTry(n) || what < 0 || what > 1 || o < 1 || o > MOST_ZONES || a < o || a > MOST_ZONES) {
            return NONE;
        }
        if (o < now.countOf(OPEN) || a < now.countActive()) {
            return NONE;
        }
        trial.drive.copyFrom(now);
        trial.drive.rules[MOST_OPEN] = o;
        trial.drive.rules[MOST_ACTIVE] = a;
        trial.grow(n, seed);
        int tally = what == 0 ? CLOSED_FOR_WANT : FINISHED_FOR_WANT;
        return trial.drive.tallies[tally] - now.tallies[tally];
    }

    public int fresh(int streams, int n, long seed, int what) {
        if (!canTry(n) || streams < 1 || streams > MOST_STREAMS || what < 0 || what > 2) {
            return NONE;
        }
        trial.beginFresh(now, streams);
        trial.grow(n, seed);
        return trial.found(what);
    }

    public int bestStreams(int n, long seed) {
        if (!canTry(n)) {
            return NONE;
        }
        trial.beginContest();
        int best = 1;
        for (int streams = 1; streams <= MOST_STREAMS; streams++) {
            trial.beginFresh(now, streams);
            trial.grow(n, seed);
            if (trial.takesLead()) {
                best = streams;
            }
        }
        return best;
    }

    public int past(int key, int i) {
        return now.hasKey(key) ? Survey.copyByRank(now, key, i) : NONE;
    }

    public int elder(int i) {
        return Survey.elderByRank(now, i);
    }

    public int gone() {
        return isDrive() ? now.tallies[NUMBER] - now.countBlocks() : NONE;
    }

    public int far(int key) {
        if (!now.hasKey(key)) {
            return NONE;
        }
        Drive apart = trial.drive;
        apart.copyFrom(now);
        int times = 0;
        while (times < MOST_PUTS && apart.write(key, 0, spare) >= 0) {
            times++;
        }
        return times;
    }

    public int shares(int zone, int c) {
        if (!now.hasZone(zone) || c < 0 || c >= VALUES) {
            return NONE;
        }
        int all = now.countBlocks();
        return all == 0 ? 0 : c * now.pointers[zone] / all;
    }

    public int most(int what) {
        if (!isDrive()) {
            return HIDDEN;
        }
        if (what >= FIRST_TALLY_TOLD && what <= FIRST_TALLY_TOLD + NUMBER) {
            return now.tallies[what - FIRST_TALLY_TOLD];
        }
        switch (what) {
            case 0:
                return Survey.zoneWithMostDead(now);
            case 1:
                return Survey.zoneWithMostResets(now);
            case 2:
                return Survey.zoneOfOldest(now);
            case 3:
                return Survey.bitsOf(now, EMPTY);
            case 4:
                return Survey.bitsOf(now, OPEN);
            case 5:
                return Survey.bitsOf(now, OPEN) | Survey.bitsOf(now, CLOSED);
            case 6:
                return Survey.bitsOf(now, FULL);
            case 7:
                return Survey.liveBlocks(now);
            case 8:
                return now.countBlocks();
            case 9:
                return Survey.liveDeletions(now);
            case 10:
                return now.keysWithValue();
            case 16:
                return Survey.keyWithMostBlocks(now);
            default:
                return HIDDEN;
        }
    }

    // ---- IMAGES and counts

    public int image() {
        if (!isDrive()) {
            return NONE;
        }
        kept.copyFrom(now);
        isKept = true;
        return now.tallies[NUMBER];
    }

    public int back() {
        if (!isKept) {
            return NONE;
        }
        now.copyFrom(kept);
        history.forget();
        return now.tallies[NUMBER];
    }

    public int count(int what) {
        switch (what) {
            case 0:
                return now.rules[ZONES];
            case 1:
                return scriptsTold;
            case 2:
                return tape.length;
            case 3:
                return now.logbook.length;
            case 4:
                return history.acts;
            default:
                return HIDDEN;
        }
    }

    /** The bytes that were fed and not yet told as a text. */
    private static final class Tape {
        static final int MOST = 240;

        final int[] signs = new int[MOST];
        int length;

        static int signsIn(int word) {
            int found = 0;
            for (int shift = 24; shift >= 0; shift -= 8) {
                if ((word >>> shift & 255) != 0) {
                    found++;
                }
            }
            return found;
        }

        void addSigns(int word) {
            for (int shift = 24; shift >= 0; shift -= 8) {
                int sign = word >>> shift & 255;
                if (sign != 0 && length < MOST) {
                    signs[length] = sign;
                    length++;
                }
            }
        }
    }

    /** Reads the TAPE as a DRIVE or a SCRIPT; what it read stays in it till it reads again. */
    private static final class Reader {
        private static final int BLANK = 32;
        private static final int MOST_CLAUSES = MOST_WRITES + 1;
        private static final int MOST_DIGITS = 3;

        private static final String RULE_LETTERS = "zcoamrp";
        private static final int[] RULE_WITHOUT = {4, 8, 2, 3, 1, 1, 0};
        private static final int[] RULE_LEAST = {3, 2, 1, 1, 1, 1, 0};
        private static final int[] RULE_MOST = {8, 16, 8, 8, 3, 2, 3};

        private static final String WRITE_LETTERS = "kv";
        private static final int[] WRITE_LEAST = {0, 0};
        private static final int[] WRITE_MOST = {31, 999};

        // In the order of the numbers by which step() tells them.
        private static final String STEP_LETTERS = "pdcxolfry";

        final int[] rules = new int[RULES];
        final int[] keys = new int[MOST_WRITES];
        final int[] values = new int[MOST_WRITES];
        int writes;
        final Script script = new Script();

        private final Tape tape;
        private final int[] write = new int[2];
        private boolean rulesTold;
        private int at;
        private int wrong;

        Reader(Tape tape) {
            this.tape = tape;
        }

        int readDrive() {
            at = 0;
            wrong = NONE;
            writes = 0;
            rulesTold = false;
            System.arraycopy(RULE_WITHOUT, 0, rules, 0, RULES);
            for (int clause = 0; clause <= MOST_CLAUSES; clause++) {
                readClause();
                if (wrong != NONE) {
                    return wrong;
                }
                if (isAtEnd()) {
                    return NONE;
                }
                if (!takes(';')) {
                    return at;
                }
            }
            return at;
        }

        private void readClause() {
            int letter = upcoming();
            if (letter == 's' && !rulesTold) {
                at++;
                rulesTold = true;
                readItems(RULE_LETTERS, RULE_LEAST, RULE_MOST, rules);
            } else if (letter == 'w' && writes < MOST_WRITES) {
                at++;
                write[0] = 0;
                write[1] = 0;
                readItems(WRITE_LETTERS, WRITE_LEAST, WRITE_MOST, write);
                keys[writes] = write[0];
                values[writes] = write[1];
                writes++;
            } else {
                wrong = at;
            }
        }

        private void readItems(String letters, int[] least, int[] most, int[] into) {
            int seen = 0;
            for (int item = 0; item <= letters.length(); item++) {
                int which = letters.indexOf((char) upcoming());
                if (which < 0 || which >= into.length) {
                    return;
                }
                if ((seen >> which & 1) != 0) {
                    wrong = at;
                    return;
                }
                seen |= 1 << which;
                at++;
                into[which] = readNumber(least[which], most[which]);
                if (wrong != NONE) {
                    return;
                }
            }
        }

        int readScript() {
            at = 0;
            wrong = NONE;
            script.length = 0;
            for (int i = 0; i < MOST_STEPS; i++) {
                readStep();
                if (wrong != NONE) {
                    return wrong;
                }
                if (isAtEnd()) {
                    return NONE;
                }
                if (i == MOST_STEPS - 1 || !takes(';')) {
                    return at;
                }
            }
            return at;
        }

        private void readStep() {
            int what = STEP_LETTERS.indexOf((char) upcoming());
            if (what < 0) {
                wrong = at;
                return;
            }
            at++;
            int first = NONE;
            int value = NONE;
            if (what == PUT_STEP || what == DELETE_STEP) {
                first = readNumber(0, KEYS - 1);
            } else if (what != CLEAN_STEP && what != CRASH_STEP) {
                first = readDigit();
            }
            if (what == PUT_STEP && wrong == NONE) {
                value = readValue();
            }
            script.add(what, first, value);
        }

        private int readValue() {
            if (upcoming() != '=') {
                wrong = at;
                return NONE;
            }
            at++;
            return readNumber(0, VALUES - 1);
        }

        private int readNumber(int least, int most) {
            upcoming();
            int number = 0;
            int digits = 0;
            while (digits < MOST_DIGITS && isDigit()) {
                number = number * 10 + tape.signs[at] - '0';
                at++;
                digits++;
            }
            if (digits == 0 || isDigit()) {
                wrong = at;
            } else if (number < least || number > most) {
                wrong = at - 1;
            }
            return number;
        }

        private int readDigit() {
            int sign = upcoming();
            if (!isDigit()) {
                wrong = at;
                return NONE;
            }
            at++;
            return sign - '0';
        }

        /** The sign behind the blanks that stand here; 0 at the end, as no byte of the TAPE is. */
        private int upcoming() {
            while (at < tape.length && tape.signs[at] == BLANK) {
                at++;
            }
            return at < tape.length ? tape.signs[at] : 0;
        }

        private boolean isAtEnd() {
            return upcoming() == 0;
        }

        private boolean isDigit() {
            return at < tape.length && tape.signs[at] >= '0' && tape.signs[at] <= '9';
        }

        private boolean takes(int sign) {
            if (upcoming() != sign) {
                return false;
            }
            at++;
            return true;
        }
    }

    /** STEPS that were told. */
    private static final class Script {
        final int[] whats = new int[MOST_STEPS];
        final int[] firsts = new int[MOST_STEPS];
        final int[] values = new int[MOST_STEPS];
        int length;

        void add(int what, int first, int value) {
            if (length < MOST_STEPS) {
                whats[length] = what;
                firsts[length] = first;
                values[length] = value;
                length++;
            }
        }

        int part(int i, int what) {
            if (i < 0 || i >= length) {
                return HIDDEN;
            }
            switch (what) {
                case 0:
                    return whats[i];
                case 1:
                    return firsts[i];
                case 2:
                    return values[i];
                default:
                    return HIDDEN;
            }
        }

        void copyFrom(Script other) {
            System.arraycopy(other.whats, 0, whats, 0, MOST_STEPS);
            System.arraycopy(other.firsts, 0, firsts, 0, MOST_STEPS);
            System.arraycopy(other.values, 0, values, 0, MOST_STEPS);
            length = other.length;
        }
    }

    /** The latest that befell a drive, in a ring. */
    private static final class Log {
        static final int RESET = 2;
        static final int FINISHED = 3;
        static final int OPENED = 4;
        static final int CLOSING = 5;
        static final int CRASH = 6;

        private static final int MOST = 60;

        private final int[] sorts = new int[MOST];
        private final int[] zones = new int[MOST];
        private final int[] amounts = new int[MOST];
        private int upcoming;
        int length;

        void add(int sort, int zone, int amount) {
            if (upcoming < 0 || upcoming >= MOST) {
                upcoming = 0;
            }
            sorts[upcoming] = sort;
            zones[upcoming] = zone;
            amounts[upcoming] = amount;
            upcoming++;
            if (length < MOST) {
                length++;
            }
        }

        int entry(int i, int what) {
            if (i < 0 || i >= length) {
                return HIDDEN;
            }
            int slot = (upcoming - 1 - i + MOST) % MOST;
            switch (what) {
                case 0:
                    return sorts[slot];
                case 1:
                    return zones[slot];
                case 2:
                    return amounts[slot];
                default:
                    return HIDDEN;
            }
        }

        void clear() {
            upcoming = 0;
            length = 0;
        }

        void copyFrom(Log other) {
            System.arraycopy(other.sorts, 0, sorts, 0, MOST);
            System.arraycopy(other.zones, 0, zones, 0, MOST);
            System.arraycopy(other.amounts, 0, amounts, 0, MOST);
            upcoming = other.upcoming;
            length = other.length;
        }
    }

    /** Draws as the document tells them. */
    private static final class Draw {
        long seed;

        int below(int bound) {
            seed = seed * 6364136223846793005L + 1442695040888963407L;
            return bound <= 0 ? 0 : (int) ((seed >>> 33) % bound);
        }
    }

    /** ZONES, BLOCKS and STREAMS, and all that changes them. Without ZONES it is no DRIVE. */
    private static final class Drive {
        // Each cleaning leaves fewer DEAD places than there were, so that it ends far below this.
        private static final int MOST_CLEANINGS = 1000;

        final int[] rules = new int[RULES];
        final int[] tallies = new int[TALLIES];
        final int[] states = new int[MOST_ZONES];
        final int[] pointers = new int[MOST_ZONES];
        final int[] resets = new int[MOST_ZONES];
        final int[] stamps = new int[MOST_ZONES];
        final int[] homes = new int[MOST_STREAMS];
        // By PLACE.
        final int[] keys = new int[PLACES];
        final int[] values = new int[PLACES];
        final int[] numbers = new int[PLACES];
        // By KEY, kept beside the BLOCKS so that no call has to look for them.
        final int[] latest = new int[KEYS];
        final int[] leastNumbers = new int[KEYS];
        final int[] copies = new int[KEYS];
        final Log logbook = new Log();

        void copyFrom(Drive other) {
            System.arraycopy(other.rules, 0, rules, 0, RULES);
            System.arraycopy(other.tallies, 0, tallies, 0, TALLIES);
            System.arraycopy(other.states, 0, states, 0, MOST_ZONES);
            System.arraycopy(other.pointers, 0, pointers, 0, MOST_ZONES);
            System.arraycopy(other.resets, 0, resets, 0, MOST_ZONES);
            System.arraycopy(other.stamps, 0, stamps, 0, MOST_ZONES);
            System.arraycopy(other.homes, 0, homes, 0, MOST_STREAMS);
            System.arraycopy(other.keys, 0, keys, 0, PLACES);
            System.arraycopy(other.values, 0, values, 0, PLACES);
            System.arraycopy(other.numbers, 0, numbers, 0, PLACES);
            System.arraycopy(other.latest, 0, latest, 0, KEYS);
            System.arraycopy(other.leastNumbers, 0, leastNumbers, 0, KEYS);
            System.arraycopy(other.copies, 0, copies, 0, KEYS);
            logbook.copyFrom(other.logbook);
        }

        /** A new drive: all ZONES EMPTY, nothing counted. */
        void begin(int[] told) {
            if (told.length < RULES) {
                return;
            }
            System.arraycopy(told, 0, rules, 0, RULES);
            rules[MOST_OPEN] = Math.min(rules[MOST_OPEN], rules[MOST_ACTIVE]);
            Arrays.fill(tallies, 0);
            Arrays.fill(states, EMPTY);
            Arrays.fill(pointers, 0);
            Arrays.fill(resets, 0);
            Arrays.fill(stamps, 0);
            Arrays.fill(homes, NONE);
            logbook.clear();
            learnAll();
        }

        // ---- what is so

        boolean hasZone(int zone) {
            return zone >= 0 && zone < rules[ZONES];
        }

        boolean hasStream(int stream) {
            return stream >= 0 && stream < rules[STREAMS];
        }

        boolean hasKey(int key) {
            return rules[ZONES] > 0 && key >= 0 && key < KEYS;
        }

        boolean hasBlock(int place) {
            int zone = place / MOST_CAPACITY;
            return place >= 0 && hasZone(zone) && place % MOST_CAPACITY < pointers[zone];
        }

        boolean isActive(int zone) {
            return states[zone] == OPEN || states[zone] == CLOSED;
        }

        boolean isLive(int place) {
            int key = keys[place];
            if (latest[key] != place) {
                return false;
            }
            return values[place] != NONE || leastNumbers[key] < numbers[place];
        }

        int valueOf(int key) {
            return hasKey(key) && latest[key] != NONE ? values[latest[key]] : NONE;
        }

        int latestNumber(int key) {
            return latest[key] == NONE ? NONE : numbers[latest[key]];
        }

        int keysWithValue() {
            int found = 0;
            for (int key = 0; key < KEYS; key++) {
                if (valueOf(key) != NONE) {
                    found++;
                }
            }
            return found;
        }

        int countBlocks() {
            int found = 0;
            for (int zone = 0; zone < rules[ZONES]; zone++) {
                found += pointers[zone];
            }
            return found;
        }

        int appended() {
            return tallies[WRITTEN] + tallies[MOVED];
        }

        int countOf(int state) {
            int found = 0;
            for (int zone = 0; zone < rules[ZONES]; zone++) {
                if (states[zone] == state) {
                    found++;
                }
            }
            return found;
        }

        int countActive() {
            return countOf(OPEN) + countOf(CLOSED);
        }

        int liveIn(int zone) {
            int found = 0;
            int first = zone * MOST_CAPACITY;
            for (int i = 0; i < pointers[zone]; i++) {
                if (isLive(first + i)) {
                    found++;
                }
            }
            return found;
        }

        int deadIn(int zone) {
            return rules[CAPACITY] - liveIn(zone);
        }

        int ageOf(int zone) {
            int greatest = NONE;
            int first = zone * MOST_CAPACITY;
            for (int i = 0; i < pointers[zone]; i++) {
                greatest = Math.max(greatest, numbers[first + i]);
            }
            return greatest == NONE ? 0 : tallies[NUMBER] - greatest;
        }

        int streamOf(int zone) {
            for (int stream = 0; stream < rules[STREAMS]; stream++) {
                if (homes[stream] == zone) {
                    return stream;
                }
            }
            return NONE;
        }

        int streamFor(int key) {
            int last = rules[STREAMS] - 1;
            if (latest[key] == NONE) {
                return last;
            }
            int distance = tallies[NUMBER] + 1 - numbers[latest[key]];
            if (last == 1) {
                return distance <= 8 ? 0 : 1;
            }
            if (last == 2 && distance <= 16) {
                return distance <= 4 ? 0 : 1;
            }
            return last;
        }

        int scoreOf(int zone, int policy) {
            int live = liveIn(zone);
            int dead = rules[CAPACITY] - live;
            switch (policy) {
                case 1:
                    int parts = rules[CAPACITY] + live;
                    return parts <= 0 ? 0 : (int) (1000L * dead * ageOf(zone) / parts);
                case 2:
                    return ageOf(zone);
                case 3:
                    return (1000 - resets[zone]) * 20 + dead;
                default:
                    return dead;
            }
        }

        boolean isToClean(int zone) {
            return states[zone] == FULL && deadIn(zone) > 0;
        }

        int zoneToClean() {
            int taken = NONE;
            int greatest = 0;
            for (int zone = 0; zone < rules[ZONES]; zone++) {
                if (isToClean(zone)) {
                    int score = scoreOf(zone, rules[POLICY]);
                    if (taken == NONE || score > greatest) {
                        taken = zone;
                        greatest = score;
                    }
                }
            }
            return taken;
        }

        boolean hasRoomFor(int zone) {
            int room = countOf(EMPTY) * rules[CAPACITY];
            int last = rules[STREAMS] - 1;
            if (!lacksZone(last)) {
                room += rules[CAPACITY] - pointers[homes[last]];
            }
            return liveIn(zone) <= room;
        }

        private boolean lacksZone(int stream) {
            if (!hasStream(stream)) {
                return true;
            }
            int zone = homes[stream];
            return !hasZone(zone) || states[zone] == FULL;
        }

        private boolean mustClean(int stream) {
            return lacksZone(stream) && countOf(EMPTY) <= rules[RESERVE];
        }

        // ---- what is kept by KEY

        private void learn(int place) {
            int key = keys[place];
            int number = numbers[place];
            int known = latest[key];
            if (known == NONE) {
                latest[key] = place;
                leastNumbers[key] = number;
            } else {
                if (number > numbers[known] || number == numbers[known] && place < known) {
                    latest[key] = place;
                }
                leastNumbers[key] = Math.min(leastNumbers[key], number);
            }
            copies[key]++;
        }

        private void learnAll() {
            Arrays.fill(latest, NONE);
            Arrays.fill(leastNumbers, 0);
            Arrays.fill(copies, 0);
            for (int place = 0; place < PLACES; place++) {
                if (hasBlock(place)) {
                    learn(place);
                }
            }
        }

        // ---- what is done

        /** PUT, or with the VALUE NONE a DELETE: the PLACE, or why it can't be. */
        int write(int key, int value, Drive before) {
            if (!hasKey(key)) {
                return NO_SUCH;
            }
            if (value == NONE && valueOf(key) == NONE) {
                return NOT_SO;
            }
            // Told once: a cleaning may take away the very BLOCK that it is told by.
            int stream = streamFor(key);
            for (int i = 0; i < MOST_CLEANINGS && mustClean(stream); i++) {
                if (i == 0) {
                    before.copyFrom(this);
                }
                int zone = zoneToClean();
                if (zone == NONE || !hasRoomFor(zone)) {
                    copyFrom(before);
                    return TOO_MUCH;
                }
                moveLive(zone, MOST_CAPACITY);
                endCleaning(zone);
            }
            tallies[NUMBER]++;
            return appendTo(stream, key, value, tallies[NUMBER], WRITTEN);
        }

        int cleanByHand() {
            if (rules[ZONES] == 0) {
                return NO_SUCH;
            }
            int zone = zoneToClean();
            if (zone == NONE) {
                return NOT_SO;
            }
            if (!hasRoomFor(zone)) {
                return TOO_MUCH;
            }
            int moved = moveLive(zone, MOST_CAPACITY);
            endCleaning(zone);
            return moved;
        }

        int moveLive(int zone, int most) {
            int moved = 0;
            int last = rules[STREAMS] - 1;
            int first = zone * MOST_CAPACITY;
            for (int i = 0; i < pointers[zone] && moved < most; i++) {
                int place = first + i;
                if (isLive(place)) {
                    appendTo(last, keys[place], values[place], numbers[place], MOVED);
                    moved++;
                }
            }
            return moved;
        }

        private void endCleaning(int zone) {
            tallies[CLEANINGS]++;
            emptyZone(zone);
        }

        /** The sort is both what is counted and what the LOG tells: WRITTEN or MOVED. */
        private int appendTo(int stream, int key, int value, int number, int sort) {
            if (lacksZone(stream)) {
                takeZone(stream);
            }
            if (lacksZone(stream)) {
                return TOO_MUCH;
            }
            int zone = homes[stream];
            if (states[zone] != OPEN) {
                openToAppend(zone);
            }
            int place = zone * MOST_CAPACITY + pointers[zone];
            keys[place] = key;
            values[place] = value;
            numbers[place] = number;
            pointers[zone]++;
            if (pointers[zone] >= rules[CAPACITY]) {
                states[zone] = FULL;
            }
            tallies[CLOCK]++;
            stamps[zone] = tallies[CLOCK];
            learn(place);
            tallies[sort]++;
            logbook.add(sort, zone, place);
            return place;
        }

        private void takeZone(int stream) {
            if (!hasStream(stream)) {
                return;
            }
            if (countActive() >= rules[MOST_ACTIVE]) {
                int zone = zoneToFinish();
                if (zone != NONE) {
                    finishZone(zone);
                    tallies[FINISHED_FOR_WANT]++;
                }
            }
            homes[stream] = emptyZoneLeastReset();
        }

        private int zoneToFinish() {
            int taken = NONE;
            for (int zone = 0; zone < rules[ZONES]; zone++) {
                if (isActive(zone)) {
                    if (streamOf(zone) == NONE) {
                        return zone;
                    }
                    if (taken == NONE || pointers[zone] > pointers[taken]) {
                        taken = zone;
                    }
                }
            }
            return taken;
        }

        private int emptyZoneLeastReset() {
            int taken = NONE;
            for (int zone = 0; zone < rules[ZONES]; zone++) {
                if (states[zone] == EMPTY && (taken == NONE || resets[zone] < resets[taken])) {
                    taken = zone;
                }
            }
            return taken;
        }

        private void openToAppend(int zone) {
            if (countOf(OPEN) >= rules[MOST_OPEN]) {
                int other = openZoneLeftLongest();
                if (other != NONE) {
                    closeZone(other);
                    tallies[CLOSED_FOR_WANT]++;
                }
            }
            states[zone] = OPEN;
        }

        private int openZoneLeftLongest() {
            int taken = NONE;
            for (int zone = 0; zone < rules[ZONES]; zone++) {
                if (states[zone] == OPEN && (taken == NONE || stamps[zone] < stamps[taken])) {
                    taken = zone;
                }
            }
            return taken;
        }

        private int stateWhenClosed(int zone) {
            return pointers[zone] == 0 ? EMPTY : CLOSED;
        }

        private void closeZone(int zone) {
            states[zone] = stateWhenClosed(zone);
            logbook.add(Log.CLOSING, zone, pointers[zone]);
        }

        private void finishZone(int zone) {
            states[zone] = FULL;
            logbook.add(Log.FINISHED, zone, pointers[zone]);
        }

        private void emptyZone(int zone) {
            states[zone] = EMPTY;
            pointers[zone] = 0;
            resets[zone]++;
            int stream = streamOf(zone);
            if (stream != NONE) {
                homes[stream] = NONE;
            }
            learnAll();
            logbook.add(Log.RESET, zone, resets[zone]);
        }

        int crashByHand() {
            if (rules[ZONES] == 0) {
                return NO_SUCH;
            }
            for (int zone = 0; zone < rules[ZONES]; zone++) {
                if (states[zone] == OPEN) {
                    states[zone] = stateWhenClosed(zone);
                }
            }
            findHomes();
            tallies[NUMBER] = greatestNumber();
            tallies[CRASHES]++;
            int found = keysWithValue();
            logbook.add(Log.CRASH, NONE, found);
            return found;
        }

        private void findHomes() {
            Arrays.fill(homes, NONE);
            int stream = 0;
            for (int zone = 0; zone < rules[ZONES]; zone++) {
                if (hasStream(stream) && isActive(zone)) {
                    homes[stream] = zone;
                    stream++;
                }
            }
        }

        private int greatestNumber() {
            int greatest = 0;
            for (int key = 0; key < KEYS; key++) {
                greatest = Math.max(greatest, latestNumber(key));
            }
            return greatest;
        }

        int openByHand(int zone) {
            if (!hasZone(zone)) {
                return NO_SUCH;
            }
            if (states[zone] == OPEN || states[zone] == FULL) {
                return NOT_SO;
            }
            if (countOf(OPEN) >= rules[MOST_OPEN]) {
                return TOO_MUCH;
            }
            if (states[zone] == EMPTY && countActive() >= rules[MOST_ACTIVE]) {
                return TOO_MUCH;
            }
            states[zone] = OPEN;
            // Ahead of all to which was APPENDED: their stamps begin with 1.
            stamps[zone] = 0;
            logbook.add(Log.OPENED, zone, 0);
            return countOf(OPEN);
        }

        int closeByHand(int zone) {
            if (!hasZone(zone)) {
                return NO_SUCH;
            }
            if (states[zone] != OPEN) {
                return NOT_SO;
            }
            closeZone(zone);
            return countOf(OPEN);
        }

        int finishByHand(int zone) {
            if (!hasZone(zone)) {
                return NO_SUCH;
            }
            if (!isActive(zone)) {
                return NOT_SO;
            }
            finishZone(zone);
            return pointers[zone];
        }

        int resetByHand(int zone) {
            if (!hasZone(zone)) {
                return NO_SUCH;
            }
            if (states[zone] == EMPTY) {
                return NOT_SO;
            }
            if (liveIn(zone) > 0) {
                return TOO_MUCH;
            }
            emptyZone(zone);
            return resets[zone];
        }

        int choosePolicy(int policy) {
            if (rules[ZONES] == 0) {
                return NO_SUCH;
            }
            if (!isPolicy(policy)) {
                return OUT_OF_BOUNDS;
            }
            int was = rules[POLICY];
            if (was == policy) {
                return NOT_SO;
            }
            rules[POLICY] = policy;
            return was;
        }
    }

    /** Drives as they were ahead of the latest ACTS. */
    private static final class History {
        private static final int MOST = 40;
        // One more, so that an ACT that is refused later costs none that can be UNDONE.
        private static final int SLOTS = MOST + 1;

        private final Drive[] drives = new Drive[SLOTS];
        private int first;
        int acts;

        private int slot(int i) {
            return (first + i) % SLOTS;
        }

        void prepare(Drive drive) {
            int slot = slot(acts);
            // Made when first needed: most objects see few ACTS, and a drive is large.
            if (drives[slot] == null) {
                drives[slot] = new Drive();
            }
            drives[slot].copyFrom(drive);
        }

        void commit() {
            if (acts < MOST) {
                acts++;
            } else {
                first = slot(1);
            }
        }

        void takeBack(Drive drive) {
            if (acts == 0) {
                return;
            }
            acts--;
            Drive was = drives[slot(acts)];
            if (was != null) {
                drive.copyFrom(was);
            }
        }

        void forget() {
            first = 0;
            acts = 0;
        }
    }

    /** A drive apart, on which draws are PUT. */
    private static final class Trial {
        final Drive drive = new Drive();
        private final Drive before;
        private final Draw draw = new Draw();
        private int puts;
        private int perThousand;
        private int spread;
        private int leadPuts;
        private int leadPerThousand;

        Trial(Drive spare) {
            before = spare;
        }

        void beginWith(Drive now, int policy) {
            drive.copyFrom(now);
            drive.rules[POLICY] = policy;
        }

        void beginFresh(Drive now, int streams) {
            drive.begin(now.rules);
            drive.rules[STREAMS] = streams;
        }

        void grow(int n, long seed) {
            draw.seed = seed;
            puts = 0;
            int atFirst = drive.appended();
            boolean goesOn = true;
            while (puts < n && goesOn) {
                int key = draw.below(draw.below(KEYS) + 1);
                goesOn = drive.write(key, draw.below(VALUES), before) >= 0;
                puts += goesOn ? 1 : 0;
            }
            perThousand = puts == 0 ? 0 : 1000 * (drive.appended() - atFirst) / puts;
            spread = Survey.spreadOfResets(drive);
        }

        int found(int what) {
            if (what == 0) {
                return puts;
            }
            return what == 1 ? perThousand : spread;
        }

        void beginContest() {
            leadPuts = NONE;
            leadPerThousand = 0;
        }

        boolean takesLead() {
            if (puts < leadPuts || puts == leadPuts && perThousand >= leadPerThousand) {
                return false;
            }
            leadPuts = puts;
            leadPerThousand = perThousand;
            return true;
        }
    }

    /** Looks over a whole drive. */
    private static final class Survey {
        private Survey() {
        }

        static int otherValues(Drive one, Drive other) {
            int found = 0;
            for (int key = 0; key < KEYS; key++) {
                if (one.valueOf(key) != other.valueOf(key)) {
                    found++;
                }
            }
            return found;
        }

        static int twice(Drive drive) {
            int found = 0;
            for (int place = 0; place < PLACES; place++) {
                if (drive.hasBlock(place) && isAgain(drive, place)) {
                    found++;
                }
            }
            return found;
        }

        private static boolean isAgain(Drive drive, int place) {
            for (int p = 0; p < place; p++) {
                if (drive.hasBlock(p) && drive.keys[p] == drive.keys[place]
                        && drive.numbers[p] == drive.numbers[place]) {
                    return true;
                }
            }
            return false;
        }

        /** The ZONE that would be taken as the i-th, each as if those ahead of it were gone. */
        static int zoneByRank(Drive drive, int policy, int i) {
            for (int zone = 0; zone < drive.rules[ZONES]; zone++) {
                if (drive.isToClean(zone) && zonesAhead(drive, policy, zone) == i) {
                    return zone;
                }
            }
            return NONE;
        }

        private static int zonesAhead(Drive drive, int policy, int zone) {
            int score = drive.scoreOf(zone, policy);
            int ahead = 0;
            for (int z = 0; z < drive.rules[ZONES]; z++) {
                if (z != zone && drive.isToClean(z)) {
                    int other = drive.scoreOf(z, policy);
                    if (other > score || other == score && z < zone) {
                        ahead++;
                    }
                }
            }
            return ahead;
        }

        static int copyByRank(Drive drive, int key, int i) {
            for (int place = 0; place < PLACES; place++) {
                if (drive.hasBlock(place) && drive.keys[place] == key && copiesAhead(drive, place) == i) {
                    return place;
                }
            }
            return NONE;
        }

        private static int copiesAhead(Drive drive, int place) {
            int number = drive.numbers[place];
            int ahead = 0;
            for (int p = 0; p < PLACES; p++) {
                if (drive.hasBlock(p) && drive.keys[p] == drive.keys[place]) {
                    int other = drive.numbers[p];
                    if (other > number || other == number && p < place) {
                        ahead++;
                    }
                }
            }
            return ahead;
        }

        static int elderByRank(Drive drive, int i) {
            for (int place = 0; place < PLACES; place++) {
                if (drive.hasBlock(place) && drive.isLive(place) && eldersAhead(drive, place) == i) {
                    return place;
                }
            }
            return NONE;
        }

        private static int eldersAhead(Drive drive, int place) {
            int ahead = 0;
            for (int key = 0; key < KEYS; key++) {
                int other = drive.latest[key];
                if (other != NONE && drive.isLive(other) && drive.numbers[other] < drive.numbers[place]) {
                    ahead++;
                }
            }
            return ahead;
        }

        static int spreadOfResets(Drive drive) {
            int greatest = drive.resets[0];
            int least = drive.resets[0];
            for (int zone = 1; zone < drive.rules[ZONES]; zone++) {
                greatest = Math.max(greatest, drive.resets[zone]);
                least = Math.min(least, drive.resets[zone]);
            }
            return greatest - least;
        }

        static int zoneWithMostDead(Drive drive) {
            int taken = NONE;
            int most = 0;
            for (int zone = 0; zone < drive.rules[ZONES]; zone++) {
                if (drive.states[zone] == FULL && (taken == NONE || drive.deadIn(zone) > most)) {
                    taken = zone;
                    most = drive.deadIn(zone);
                }
            }
            return taken;
        }

        static int zoneWithMostResets(Drive drive) {
            int taken = 0;
            for (int zone = 1; zone < drive.rules[ZONES]; zone++) {
                if (drive.resets[zone] > drive.resets[taken]) {
                    taken = zone;
                }
            }
            return taken;
        }

        static int zoneOfOldest(Drive drive) {
            int place = elderByRank(drive, 0);
            return place == NONE ? NONE : place / MOST_CAPACITY;
        }

        static int bitsOf(Drive drive, int state) {
            int bits = 0;
            for (int zone = 0; zone < drive.rules[ZONES]; zone++) {
                if (drive.states[zone] == state) {
                    bits |= 1 << zone;
                }
            }
            return bits;
        }

        static int liveBlocks(Drive drive) {
            int found = 0;
            for (int zone = 0; zone < drive.rules[ZONES]; zone++) {
                found += drive.liveIn(zone);
            }
            return found;
        }

        static int liveDeletions(Drive drive) {
            return liveBlocks(drive) - drive.keysWithValue();
        }

        static int keyWithMostBlocks(Drive drive) {
            int taken = NONE;
            int most = 0;
            for (int key = 0; key < KEYS; key++) {
                if (drive.copies[key] > most) {
                    taken = key;
                    most = drive.copies[key];
                }
            }
            return taken;
        }
    }
}
