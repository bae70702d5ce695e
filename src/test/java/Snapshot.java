/** All that an object answers about itself but its STATUS, as one text. */
final class Snapshot {
    private static final int ZONES = 8;
    private static final int CAPACITY = 16;
    private static final int KEYS = 32;
    private static final int LOG = 60;

    private Snapshot() {
    }

    static String of(ZoneLedger x) {
        StringBuilder text = new StringBuilder("counts");
        for (int what = 0; what < 5; what++) {
            add(text, x.count(what));
        }
        text.append("; faults");
        add(text, x.fault(0));
        add(text, x.fault(1));
        addScripts(text, x);
        addDrive(text, x);
        return text.toString();
    }

    /** What the DRIVE is, without TAPE, SCRIPTS and how many ACTS can be UNDONE. */
    static String ofDrive(ZoneLedger x) {
        StringBuilder text = new StringBuilder();
        addDrive(text, x);
        return text.toString();
    }

    private static void addDrive(StringBuilder text, ZoneLedger x) {
        text.append("; rules");
        for (int what = 0; what < 7; what++) {
            add(text, x.rule(what));
        }
        addZones(text, x);
        addKeys(text, x);
        text.append("; streams");
        for (int stream = 0; stream < 3; stream++) {
            add(text, x.stream(stream));
        }
        text.append("; most");
        for (int what = 0; what < 17; what++) {
            add(text, x.most(what));
        }
        addLog(text, x);
    }

    private static void addScripts(StringBuilder text, ZoneLedger x) {
        text.append("; scripts");
        for (int script = 0; script < x.count(1); script++) {
            for (int i = 0; x.step(script, i, 0) != ZoneLedger.HIDDEN; i++) {
                add(text, x.step(script, i, 0));
                add(text, x.step(script, i, 1));
                add(text, x.step(script, i, 2));
            }
        }
    }

    private static void addZones(StringBuilder text, ZoneLedger x) {
        text.append("; zones");
        for (int zone = 0; zone < ZONES; zone++) {
            for (int what = 0; what < 8; what++) {
                add(text, Sentences.zone(x, zone, what));
            }
            for (int i = 0; i < CAPACITY; i++) {
                for (int what = 0; what < 4; what++) {
                    add(text, x.block(zone, i, what));
                }
            }
        }
    }

    private static void addKeys(StringBuilder text, ZoneLedger x) {
        text.append("; keys");
        for (int key = 0; key < KEYS; key++) {
            add(text, x.get(key));
            for (int what = 0; what < 4; what++) {
                add(text, x.key(key, what));
            }
        }
    }

    private static void addLog(StringBuilder text, ZoneLedger x) {
        text.append("; log");
        add(text, x.count(3));
        for (int i = 0; i < LOG; i++) {
            for (int what = 0; what < 3; what++) {
                add(text, x.log(i, what));
            }
        }
    }

    private static void add(StringBuilder text, int number) {
        text.append(' ').append(number);
    }

    /** What shows only later: who was let be longest, what UNDO and BACK bring. It changes the object. */
    static String ofWhatFollows(ZoneLedger x) {
        StringBuilder text = new StringBuilder();
        x.years(12, 77);
        text.append(ofDrive(x));
        for (int i = 0; i < 41; i++) {
            add(text, x.undo());
            text.append(ofDrive(x));
        }
        add(text, x.back());
        text.append(ofDrive(x));
        return text.toString();
    }
}
