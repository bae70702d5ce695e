import java.util.ArrayList;
import java.util.Comparator;
import java.util.HashMap;
import java.util.List;
import java.util.Map;

/**
 * The document once more, as plainly as it can be written: nothing is kept that can be looked for, and what is done
 * apart is done on a copy. ModelTest holds the class against it.
 */
final class Model {
    static final int NONE = -1;
    static final int HIDDEN = -1000000;

    record Block(int key, int value, int number) {
        boolean isDeletion() {
            return value == NONE;
        }
    }

    /** A BLOCK with where it lies. */
    record Lying(int zone, int i, Block block) {
        int place() {
            return 16 * zone + i;
        }
    }

    record Entry(int sort, int zone, int amount) {
    }

    record Step(int what, int first, int value) {
    }

    static final class Zone {
        int is;
        int resets;
        long appended;
        List<Block> blocks = new ArrayList<>();

        Zone copy() {
            Zone z = new Zone();
            z.is = is;
            z.resets = resets;
            z.appended = appended;
            z.blocks = new ArrayList<>(blocks);
            return z;
        }

        int pointer() {
            return blocks.size();
        }

        boolean active() {
            return is == 1 || is == 2;
        }
    }

    static final class State {
        int capacity;
        int open;
        int active;
        int reserve;
        int policy;
        List<Zone> zones = new ArrayList<>();
        Integer[] streams;
        int number;
        long clock;
        int written;
        int moved;
        int cleanings;
        int crashes;
        int closed;
        int finished;
        List<Entry> log = new ArrayList<>();

        State copy() {
            State s = new State();
            s.capacity = capacity;
            s.open = open;
            s.active = active;
            s.reserve = reserve;
            s.policy = policy;
            for (Zone z : zones) {
                s.zones.add(z.copy());
            }
            s.streams = streams.clone();
            s.number = number;
            s.clock = clock;
            s.written = written;
            s.moved = moved;
            s.cleanings = cleanings;
            s.crashes = crashes;
            s.closed = closed;
            s.finished = finished;
            s.log = new ArrayList<>(log);
            return s;
        }

        void note(int sort, int zone, int amount) {
            log.add(0, new Entry(sort, zone, amount));
            if (log.size() > 60) {
                log.remove(60);
            }
        }

        List<Lying> all() {
            List<Lying> found = new ArrayList<>();
            for (int z = 0; z < zones.size(); z++) {
                for (int i = 0; i < zones.get(z).pointer(); i++) {
                    found.add(new Lying(z, i, zones.get(z).blocks.get(i)));
                }
            }
            return found;
        }

        List<Lying> past(int key) {
            List<Lying> found = new ArrayList<>(all());
            found.removeIf(l -> l.block.key != key);
            found.sort(Comparator.comparingInt((Lying l) -> -l.block.number).thenComparingInt(Lying::place));
            return found;
        }

        Lying latest(int key) {
            List<Lying> past = past(key);
            return past.isEmpty() ? null : past.get(0);
        }

        boolean live(Lying l) {
            if (!l.equals(latest(l.block.key))) {
                return false;
            }
            if (!l.block.isDeletion()) {
                return true;
            }
            return past(l.block.key).stream().anyMatch(o -> o.block.number < l.block.number);
        }

        List<Lying> lives() {
            List<Lying> found = new ArrayList<>(all());
            found.removeIf(l -> !live(l));
            found.sort(Comparator.comparingInt(l -> l.block.number));
            return found;
        }

        List<Lying> livesOf(int zone) {
            List<Lying> found = new ArrayList<>(all());
            found.removeIf(l -> l.zone != zone || !live(l));
            return found;
        }

        int dead(int zone) {
            return capacity - livesOf(zone).size();
        }

        int age(int zone) {
            if (zones.get(zone).pointer() == 0) {
                return 0;
            }
            return number - zones.get(zone).blocks.stream().mapToInt(Block::number).max().getAsInt();
        }

        int get(int key) {
            Lying l = latest(key);
            return l == null ? NONE : l.block.value;
        }

        int keysWithValue() {
            int n = 0;
            for (int k = 0; k < 32; k++) {
                n += get(k) == NONE ? 0 : 1;
            }
            return n;
        }

        int howMany(int is) {
            return (int) zones.stream().filter(z -> z.is == is).count();
        }

        int actives() {
            return howMany(1) + howMany(2);
        }

        int streamOf(int zone) {
            for (int s = 0; s < streams.length; s++) {
                if (streams[s] != null && streams[s] == zone) {
                    return s;
                }
            }
            return NONE;
        }

        int score(int zone, int policy) {
            int dead = dead(zone);
            int live = capacity - dead;
            return switch (policy) {
                case 0 -> dead;
                case 1 -> (int) ((long) dead * age(zone) * 1000 / (capacity + live));
                case 2 -> age(zone);
                default -> (1000 - zones.get(zone).resets) * 20 + dead;
            };
        }

        List<Integer> order(int policy) {
            List<Integer> found = new ArrayList<>();
            for (int z = 0; z < zones.size(); z++) {
                if (zones.get(z).is == 3 && dead(z) > 0) {
                    found.add(z);
                }
            }
            found.sort(Comparator.comparingInt((Integer z) -> -score(z, policy)).thenComparingInt(z -> z));
            return found;
        }

        int room() {
            int room = capacity * howMany(0);
            Integer last = streams[streams.length - 1];
            if (last != null && zones.get(last).is != 3) {
                room += capacity - zones.get(last).pointer();
            }
            return room;
        }

        // ---- what changes it

        void close(int zone, boolean told) {
            Zone z = zones.get(zone);
            z.is = z.pointer() == 0 ? 0 : 2;
            if (told) {
                note(5, zone, z.pointer());
            }
        }

        void finish(int zone) {
            zones.get(zone).is = 3;
            note(3, zone, zones.get(zone).pointer());
        }

        void reset(int zone) {
            Zone z = zones.get(zone);
            z.is = 0;
            z.blocks.clear();
            z.resets++;
            if (streamOf(zone) != NONE) {
                streams[streamOf(zone)] = null;
            }
            note(2, zone, z.resets);
        }

        int append(int stream, Block block, int sort) {
            if (streams[stream] == null || zones.get(streams[stream]).is == 3) {
                take(stream);
            }
            int zone = streams[stream];
            Zone z = zones.get(zone);
            if (z.is != 1) {
                if (howMany(1) >= open) {
                    Zone longest = zones.stream().filter(o -> o.is == 1)
                            .min(Comparator.comparingLong(o -> o.appended)).get();
                    close(zones.indexOf(longest), true);
                    closed++;
                }
                z.is = 1;
            }
            z.blocks.add(block);
            z.appended = ++clock;
            if (z.pointer() == capacity) {
                z.is = 3;
            }
            int place = 16 * zone + z.pointer() - 1;
            note(sort, zone, place);
            return place;
        }

        void take(int stream) {
            if (actives() >= active) {
                int zone = NONE;
                for (int z = zones.size() - 1; z >= 0; z--) {
                    if (zones.get(z).active() && streamOf(z) == NONE) {
                        zone = z;
                    }
                }
                if (zone == NONE) {
                    for (int z = zones.size() - 1; z >= 0; z--) {
                        if (zones.get(z).active() && streamOf(z) != stream
                                && (zone == NONE || zones.get(z).pointer() >= zones.get(zone).pointer())) {
                            zone = z;
                        }
                    }
                }
                finish(zone);
                finished++;
            }
            streams[stream] = zones.indexOf(zones.stream().filter(z -> z.is == 0)
                    .min(Comparator.comparingInt(z -> z.resets)).get());
        }

        int streamFor(int key) {
            int last = streams.length - 1;
            Lying l = latest(key);
            if (l == null) {
                return last;
            }
            int distance = number + 1 - l.block.number;
            return switch (streams.length) {
                case 1 -> 0;
                case 2 -> distance <= 8 ? 0 : 1;
                default -> distance <= 4 ? 0 : distance <= 16 ? 1 : 2;
            };
        }

        /** The STATE behind it, or null: it can't be; into answer[0] the PLACE. */
        State put(int key, int value, int[] answer) {
            State s = copy();
            int stream = s.streamFor(key);
            while ((s.streams[stream] == null || s.zones.get(s.streams[stream]).is == 3)
                    && s.howMany(0) <= s.reserve) {
                s = s.clean(answer);
                if (s == null) {
                    return null;
                }
            }
            s.number++;
            s.written++;
            answer[0] = s.append(stream, new Block(key, value, s.number), 0);
            return s;
        }

        State begunCleaning(int moves) {
            List<Integer> order = order(policy);
            if (order.isEmpty() || livesOf(order.get(0)).size() > room()) {
                return null;
            }
            State s = copy();
            List<Lying> lives = livesOf(order.get(0));
            for (int i = 0; i < lives.size() && i < moves; i++) {
                s.append(streams.length - 1, lives.get(i).block, 1);
                s.moved++;
            }
            return s;
        }

        State clean(int[] answer) {
            State s = begunCleaning(1000);
            if (s != null) {
                int zone = order(policy).get(0);
                answer[0] = livesOf(zone).size();
                s.reset(zone);
                s.cleanings++;
            }
            return s;
        }

        void crash() {
            for (int z = 0; z < zones.size(); z++) {
                if (zones.get(z).is == 1) {
                    close(z, false);
                }
            }
            number = all().stream().mapToInt(l -> l.block.number).max().orElse(0);
            int z = 0;
            for (int s = 0; s < streams.length; s++) {
                while (z < zones.size() && !zones.get(z).active()) {
                    z++;
                }
                streams[s] = z < zones.size() ? z++ : null;
            }
            crashes++;
            note(6, NONE, keysWithValue());
        }
    }

    // ---- the face

    StringBuilder tape = new StringBuilder();
    State now;
    State image;
    List<State> undo = new ArrayList<>();
    List<List<Step>> scripts = new ArrayList<>();
    int[] status = new int[4];

    int feed(int a, int b, int c, int d, int e) {
        StringBuilder more = new StringBuilder();
        for (int word : new int[] {a, b, c, d, e}) {
            for (int shift : new int[] {24, 16, 8, 0}) {
                int sign = (word >> shift) & 255;
                if (sign != 0) {
                    more.append((char) sign);
                }
            }
        }
        if (tape.length() + more.length() > 240) {
            return NONE;
        }
        tape.append(more);
        return tape.length();
    }

    boolean end(int n) {
        if (n < 0 || n > tape.length()) {
            return false;
        }
        tape.setLength(n);
        return true;
    }

    int fault(int sort) {
        if (sort == 0) {
            return new ModelText(tape.toString()).drive();
        }
        return sort == 1 ? new ModelText(tape.toString()).script() : -2;
    }

    int text(int sort) {
        if (sort < 0 || sort > 1 || fault(sort) != NONE || sort == 1 && scripts.size() == 4) {
            return NONE;
        }
        ModelText text = new ModelText(tape.toString());
        tape.setLength(0);
        if (sort == 1) {
            text.script();
            scripts.add(text.steps);
            return scripts.size() - 1;
        }
        text.drive();
        image = null;
        undo.clear();
        now = fresh(text.rules, text.rules.get('m'));
        for (int[] write : text.writes) {
            State then = now.put(write[0], write[1], new int[1]);
            now = then == null ? now : then;
        }
        return now.zones.size();
    }

    private static State fresh(Map<Character, Integer> rules, int streams) {
        State s = new State();
        s.capacity = rules.get('c');
        s.active = rules.get('a');
        s.open = rules.get('a') < rules.get('o') ? rules.get('a') : rules.get('o');
        s.reserve = rules.get('r');
        s.policy = rules.get('p');
        s.streams = new Integer[streams];
        for (int z = 0; z < rules.get('z'); z++) {
            s.zones.add(new Zone());
        }
        return s;
    }

    private boolean noKey(int key) {
        return now == null || key < 0 || key > 31;
    }

    private boolean noZone(int zone) {
        return now == null || zone < 0 || zone >= now.zones.size();
    }

    private static boolean out(int n, int least, int most) {
        return n < least || n > most;
    }

    int rule(int what) {
        if (now == null || out(what, 0, 6)) {
            return NONE;
        }
        return new int[] {now.zones.size(), now.capacity, now.open, now.active, now.streams.length, now.reserve,
            now.policy}[what];
    }

    /** NoSuchElementException is told as Integer.MIN_VALUE. */
    int zone(int zone, int what) {
        if (noZone(zone) || out(what, 0, 7)) {
            return Integer.MIN_VALUE;
        }
        Zone z = now.zones.get(zone);
        return new int[] {z.is, z.pointer(), now.livesOf(zone).size(), now.dead(zone), z.resets, now.age(zone),
            now.streamOf(zone), now.score(zone, now.policy)}[what];
    }

    int block(int zone, int i, int what) {
        if (noZone(zone) || out(i, 0, now.zones.get(zone).pointer() - 1) || out(what, 0, 3)) {
            return HIDDEN;
        }
        Block b = now.zones.get(zone).blocks.get(i);
        return new int[] {b.key, b.value, b.number, now.live(new Lying(zone, i, b)) ? 1 : 0}[what];
    }

    int get(int key) {
        return noKey(key) ? NONE : now.get(key);
    }

    int key(int key, int what) {
        if (noKey(key) || out(what, 0, 3)) {
            return NONE;
        }
        Lying l = now.latest(key);
        return new int[] {l == null ? NONE : l.place(), l == null ? NONE : l.block.number, now.streamFor(key),
            now.past(key).size()}[what];
    }

    int next(int key) {
        if (noKey(key)) {
            return NONE;
        }
        int k = key;
        while (k < 32 && now.get(k) == NONE) {
            k++;
        }
        return k == 32 ? NONE : k;
    }

    int range(int a, int b, int what) {
        if (noKey(a) || noKey(b) || b < a || out(what, 0, 1)) {
            return NONE;
        }
        int sum = 0;
        for (int k = a; k <= b; k++) {
            int value = now.get(k);
            sum += value == NONE ? 0 : what == 0 ? 1 : value;
        }
        return sum;
    }

    int stream(int stream) {
        if (now == null || out(stream, 0, now.streams.length - 1) || now.streams[stream] == null) {
            return NONE;
        }
        return now.streams[stream];
    }

    /** Does what is told, if it can be; else -1 less the STATUS. */
    private static int act(State[] on, int what, int first, int value) {
        State s = on[0];
        int[] answer = new int[1];
        if (s == null) {
            return -1;
        }
        switch (what) {
            case 0, 1 -> {
                if (out(first, 0, 31)) {
                    return -1;
                }
                if (what == 0 && out(value, 0, 999)) {
                    return -2;
                }
                if (what == 1 && s.get(first) == NONE) {
                    return -3;
                }
                State then = s.put(first, what == 0 ? value : NONE, answer);
                if (then == null) {
                    return -4;
                }
                on[0] = then;
                return answer[0];
            }
            case 2 -> {
                if (s.order(s.policy).isEmpty()) {
                    return -3;
                }
                State then = s.clean(answer);
                if (then == null) {
                    return -4;
                }
                on[0] = then;
                return answer[0];
            }
            case 3 -> {
                on[0] = s.copy();
                on[0].crash();
                return s.keysWithValue();
            }
            case 8 -> {
                if (out(first, 0, 3)) {
                    return -2;
                }
                if (s.policy == first) {
                    return -3;
                }
                on[0] = s.copy();
                on[0].policy = first;
                return s.policy;
            }
            default -> {
                return zoneAct(on, what, first);
            }
        }
    }

    private static int zoneAct(State[] on, int what, int zone) {
        State s = on[0];
        if (out(zone, 0, s.zones.size() - 1)) {
            return -1;
        }
        int is = s.zones.get(zone).is;
        boolean so = switch (what) {
            case 4 -> is == 0 || is == 2;
            case 5 -> is == 1;
            case 6 -> is == 1 || is == 2;
            default -> is != 0;
        };
        if (!so) {
            return -3;
        }
        if (what == 4 && (s.howMany(1) == s.open || is == 0 && s.actives() == s.active)) {
            return -4;
        }
        if (what == 7 && !s.livesOf(zone).isEmpty()) {
            return -4;
        }
        s = s.copy();
        on[0] = s;
        Zone z = s.zones.get(zone);
        switch (what) {
            case 4 -> {
                z.is = 1;
                z.appended = -1;
                s.note(4, zone, 0);
                return s.howMany(1);
            }
            case 5 -> {
                s.close(zone, true);
                return s.howMany(1);
            }
            case 6 -> {
                s.finish(zone);
                return z.pointer();
            }
            default -> {
                s.reset(zone);
                return z.resets;
            }
        }
    }

    private boolean done(int what, int first, int value, int[] answer) {
        State[] on = {now};
        answer[0] = act(on, what, first, value);
        if (answer[0] < 0) {
            return false;
        }
        undo.add(now);
        if (undo.size() > 40) {
            undo.remove(0);
        }
        now = on[0];
        return true;
    }

    int byHand(int what, int first, int value) {
        int[] answer = new int[1];
        if (done(what, first, value, answer)) {
            return answer[0];
        }
        status[-1 - answer[0]]++;
        return NONE;
    }

    static final class Draws {
        long x;

        Draws(long seed) {
            x = seed;
        }

        int of(int j) {
            x = x * 6364136223846793005L + 1442695040888963407L;
            return (int) (Long.remainderUnsigned(x >>> 33, j));
        }
    }

    int years(int n, long seed) {
        if (now == null || out(n, 1, 40)) {
            return NONE;
        }
        Draws draws = new Draws(seed);
        for (int i = 0; i < n; i++) {
            int sort = draws.of(8);
            if (sort < 5) {
                int key = draws.of(32);
                int value = draws.of(1000);
                done(0, key, value, new int[1]);
            } else if (sort == 5) {
                done(1, draws.of(32), NONE, new int[1]);
            } else if (sort == 6) {
                done(2, NONE, NONE, new int[1]);
            } else {
                done(6, draws.of(now.zones.size()), NONE, new int[1]);
            }
        }
        return now.number;
    }

    int status(int what) {
        return out(what, 0, 3) ? NONE : status[what];
    }

    int undo() {
        if (undo.isEmpty()) {
            return NONE;
        }
        now = undo.remove(undo.size() - 1);
        return undo.size();
    }

    int log(int i, int what) {
        if (now == null || out(i, 0, now.log.size() - 1) || out(what, 0, 2)) {
            return HIDDEN;
        }
        Entry e = now.log.get(i);
        return new int[] {e.sort, e.zone, e.amount}[what];
    }

    int step(int script, int i, int what) {
        if (out(script, 0, scripts.size() - 1) || out(i, 0, scripts.get(script).size() - 1) || out(what, 0, 2)) {
            return HIDDEN;
        }
        Step s = scripts.get(script).get(i);
        return new int[] {s.what, s.first, s.value}[what];
    }

    int run(int script, int what) {
        if (out(script, 0, scripts.size() - 1) || now == null || out(what, 0, 1)) {
            return HIDDEN;
        }
        State[] on = {now};
        int done = 0;
        boolean all = true;
        for (Step s : scripts.get(script)) {
            if (act(on, s.what, s.first, s.value) < 0) {
                all = false;
                break;
            }
            done++;
        }
        return what == 0 ? all ? NONE : done : on[0].written + on[0].moved - now.written - now.moved;
    }

    int perform(int script) {
        if (out(script, 0, scripts.size() - 1) || now == null) {
            return NONE;
        }
        int done = 0;
        for (Step s : scripts.get(script)) {
            if (!done(s.what, s.first, s.value, new int[1])) {
                break;
            }
            done++;
        }
        return done;
    }

    int torn(int k, int what) {
        if (now == null || k < 0 || out(what, 0, 2)) {
            return NONE;
        }
        State s = now.begunCleaning(k);
        if (s == null || k > now.livesOf(now.order(now.policy).get(0)).size()) {
            return NONE;
        }
        s.crash();
        int others = 0;
        for (int key = 0; key < 32; key++) {
            others += s.get(key) == now.get(key) ? 0 : 1;
        }
        Map<Long, Integer> seen = new HashMap<>();
        for (Lying l : s.all()) {
            seen.merge(l.block.key * 1000000L + l.block.number, 1, Integer::sum);
        }
        int twice = (int) seen.values().stream().filter(n -> n == 2).count();
        return new int[] {others, twice, s.howMany(0)}[what];
    }

    int order(int policy, int i) {
        if (now == null || out(policy, 0, 3) || out(i, 0, now.order(policy).size() - 1)) {
            return NONE;
        }
        return now.order(policy).get(i);
    }

    int score(int zone, int policy) {
        return noZone(zone) || out(policy, 0, 3) ? NONE : now.score(zone, policy);
    }

    int cost(int key) {
        State s = noKey(key) ? null : now.put(key, 0, new int[1]);
        return s == null ? NONE : s.written + s.moved - now.written - now.moved;
    }

    private int[] grown(State from, int n, long seed) {
        Draws draws = new Draws(seed);
        State s = from;
        int puts = 0;
        for (int i = 0; i < n; i++) {
            int key = draws.of(draws.of(32) + 1);
            int value = draws.of(1000);
            State then = s.put(key, value, new int[1]);
            if (then == null) {
                break;
            }
            s = then;
            puts++;
        }
        int blocks = s.written + s.moved - from.written - from.moved;
        int most = s.zones.stream().mapToInt(z -> z.resets).max().getAsInt();
        int least = s.zones.stream().mapToInt(z -> z.resets).min().getAsInt();
        return new int[] {puts, puts == 0 ? 0 : 1000 * blocks / puts, most - least, s.closed - from.closed,
            s.finished - from.finished};
    }

    private State withPolicy(int policy) {
        State s = now.copy();
        s.policy = policy;
        return s;
    }

    private State withStreams(int streams) {
        Map<Character, Integer> rules = new HashMap<>();
        rules.put('z', now.zones.size());
        rules.put('c', now.capacity);
        rules.put('o', now.open);
        rules.put('a', now.active);
        rules.put('r', now.reserve);
        rules.put('p', now.policy);
        return fresh(rules, streams);
    }

    int growth(int policy, int n, long seed, int what) {
        if (now == null || out(policy, 0, 3) || out(n, 1, 200) || out(what, 0, 2)) {
            return NONE;
        }
        return grown(withPolicy(policy), n, seed)[what];
    }

    private static int best(List<int[]> grown) {
        int best = 0;
        for (int i = 1; i < grown.size(); i++) {
            int[] a = grown.get(i);
            int[] b = grown.get(best);
            if (a[0] > b[0] || a[0] == b[0] && a[1] < b[1]) {
                best = i;
            }
        }
        return best;
    }

    int best(int n, long seed) {
        if (now == null || out(n, 1, 200)) {
            return NONE;
        }
        List<int[]> grown = new ArrayList<>();
        for (int p = 0; p < 4; p++) {
            grown.add(grown(withPolicy(p), n, seed));
        }
        return best(grown);
    }

    int strain(int o, int a, int n, long seed, int what) {
        if (now == null || out(o, 1, 8) || out(a, o, 8) || o < now.howMany(1) || a < now.actives() || out(n, 1, 200)
                || out(what, 0, 1)) {
            return NONE;
        }
        State s = now.copy();
        s.open = o;
        s.active = a;
        return grown(s, n, seed)[3 + what];
    }

    int fresh(int streams, int n, long seed, int what) {
        if (now == null || out(streams, 1, 3) || out(n, 1, 200) || out(what, 0, 2)) {
            return NONE;
        }
        return grown(withStreams(streams), n, seed)[what];
    }

    int bestStreams(int n, long seed) {
        if (now == null || out(n, 1, 200)) {
            return NONE;
        }
        List<int[]> grown = new ArrayList<>();
        for (int m = 1; m < 4; m++) {
            grown.add(grown(withStreams(m), n, seed));
        }
        return 1 + best(grown);
    }

    int past(int key, int i) {
        return noKey(key) || out(i, 0, now.past(key).size() - 1) ? NONE : now.past(key).get(i).place();
    }

    int elder(int i) {
        return now == null || out(i, 0, now.lives().size() - 1) ? NONE : now.lives().get(i).place();
    }

    int gone() {
        if (now == null) {
            return NONE;
        }
        int gone = 0;
        for (int n = 1; n <= now.number; n++) {
            int number = n;
            gone += now.all().stream().anyMatch(l -> l.block.number == number) ? 0 : 1;
        }
        return gone;
    }

    int far(int key) {
        if (noKey(key)) {
            return NONE;
        }
        State s = now;
        for (int i = 0; i < 200; i++) {
            s = s.put(key, 0, new int[1]);
            if (s == null) {
                return i;
            }
        }
        return 200;
    }

    int shares(int zone, int c) {
        if (noZone(zone) || out(c, 0, 999)) {
            return NONE;
        }
        int all = now.all().size();
        return all == 0 ? 0 : c * now.zones.get(zone).pointer() / all;
    }

    private int bits(int... is) {
        int bits = 0;
        for (int z = 0; z < now.zones.size(); z++) {
            for (int i : is) {
                bits += now.zones.get(z).is == i ? 1 << z : 0;
            }
        }
        return bits;
    }

    int most(int what) {
        if (now == null || out(what, 0, 16)) {
            return HIDDEN;
        }
        List<Integer> fulls = new ArrayList<>();
        List<Integer> zones = new ArrayList<>();
        for (int z = 0; z < now.zones.size(); z++) {
            zones.add(z);
            if (now.zones.get(z).is == 3) {
                fulls.add(z);
            }
        }
        List<Integer> keys = new ArrayList<>();
        for (int k = 0; k < 32; k++) {
            if (!now.past(k).isEmpty()) {
                keys.add(k);
            }
        }
        return switch (what) {
            case 0 -> fulls.stream().min(Comparator.comparingInt(z -> -now.dead(z))).orElse(NONE);
            case 1 -> zones.stream().min(Comparator.comparingInt(z -> -now.zones.get(z).resets)).orElse(NONE);
            case 2 -> now.lives().isEmpty() ? NONE : now.lives().get(0).zone;
            case 3 -> bits(0);
            case 4 -> bits(1);
            case 5 -> bits(1, 2);
            case 6 -> bits(3);
            case 7 -> now.lives().size();
            case 8 -> now.all().size();
            case 9 -> (int) now.lives().stream().filter(l -> l.block.isDeletion()).count();
            case 10 -> now.keysWithValue();
            case 11 -> now.written;
            case 12 -> now.moved;
            case 13 -> now.cleanings;
            case 14 -> now.crashes;
            case 15 -> now.number;
            default -> keys.stream().min(Comparator.comparingInt(k -> -now.past(k).size())).orElse(NONE);
        };
    }

    int image() {
        if (now == null) {
            return NONE;
        }
        image = now.copy();
        return now.number;
    }

    int back() {
        if (image == null) {
            return NONE;
        }
        now = image.copy();
        undo.clear();
        return now.number;
    }

    int count(int what) {
        return switch (what) {
            case 0 -> now == null ? 0 : now.zones.size();
            case 1 -> scripts.size();
            case 2 -> tape.length();
            case 3 -> now == null ? 0 : now.log.size();
            case 4 -> undo.size();
            default -> HIDDEN;
        };
    }
}
