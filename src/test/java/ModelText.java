import java.util.ArrayList;
import java.util.HashMap;
import java.util.HashSet;
import java.util.List;
import java.util.Map;
import java.util.Set;

/** Reads texts for the Model: first into signs and numbers, then by the rules. */
final class ModelText {
    /** A sign, or a run of digits (digits not null), and where it begins. */
    private record Token(char sign, String digits, int at) {
    }

    private static final class Fault extends RuntimeException {
        private static final long serialVersionUID = 1L;
        final int at;

        Fault(int at) {
            this.at = at;
        }
    }

    final Map<Character, Integer> rules = new HashMap<>(
            Map.of('z', 4, 'c', 8, 'o', 2, 'a', 3, 'm', 1, 'r', 1, 'p', 0));
    final List<int[]> writes = new ArrayList<>();
    final List<Model.Step> steps = new ArrayList<>();

    private static final Map<Character, int[]> RULE_BOUNDS = Map.of('z', new int[] {3, 8}, 'c', new int[] {2, 16},
            'o', new int[] {1, 8}, 'a', new int[] {1, 8}, 'm', new int[] {1, 3}, 'r', new int[] {1, 2},
            'p', new int[] {0, 3});
    private static final Map<Character, int[]> WRITE_BOUNDS = Map.of('k', new int[] {0, 31}, 'v', new int[] {0, 999});

    private final List<Token> tokens = new ArrayList<>();
    private final int length;
    private int upcoming;

    ModelText(String text) {
        length = text.length();
        int i = 0;
        while (i < length) {
            char c = text.charAt(i);
            if (c == ' ') {
                i++;
            } else if (Character.isDigit(c) && c < 128) {
                int from = i;
                while (i < length && text.charAt(i) >= '0' && text.charAt(i) <= '9') {
                    i++;
                }
                tokens.add(new Token('0', text.substring(from, i), from));
            } else {
                tokens.add(new Token(c, null, i));
                i++;
            }
        }
    }

    private boolean atEnd() {
        return upcoming == tokens.size();
    }

    private Token peek() {
        if (atEnd()) {
            throw new Fault(length);
        }
        return tokens.get(upcoming);
    }

    private char letter() {
        Token t = peek();
        if (t.digits != null) {
            throw new Fault(t.at);
        }
        upcoming++;
        return t.sign;
    }

    private int number(int least, int most) {
        Token t = peek();
        if (t.digits == null) {
            throw new Fault(t.at);
        }
        if (t.digits.length() > 3) {
            throw new Fault(t.at + 3);
        }
        int n = Integer.parseInt(t.digits);
        if (n < least || n > most) {
            throw new Fault(t.at + t.digits.length() - 1);
        }
        upcoming++;
        return n;
    }

    private int digit() {
        Token t = peek();
        if (t.digits == null) {
            throw new Fault(t.at);
        }
        if (t.digits.length() > 1) {
            throw new Fault(t.at + 1);
        }
        upcoming++;
        return t.digits.charAt(0) - '0';
    }

    int drive() {
        try {
            boolean rulesTold = false;
            do {
                int at = peek().at;
                char c = letter();
                if (c == 's' && !rulesTold) {
                    rulesTold = true;
                    items(rules, RULE_BOUNDS);
                } else if (c == 'w' && writes.size() < 24) {
                    Map<Character, Integer> write = new HashMap<>(Map.of('k', 0, 'v', 0));
                    items(write, WRITE_BOUNDS);
                    writes.add(new int[] {write.get('k'), write.get('v')});
                } else {
                    throw new Fault(at);
                }
            } while (goesOn());
            return Model.NONE;
        } catch (Fault f) {
            return f.at;
        }
    }

    private void items(Map<Character, Integer> into, Map<Character, int[]> bounds) {
        Set<Character> seen = new HashSet<>();
        while (!atEnd() && peek().sign != ';') {
            int at = peek().at;
            char c = letter();
            if (!bounds.containsKey(c) || !seen.add(c)) {
                throw new Fault(at);
            }
            into.put(c, number(bounds.get(c)[0], bounds.get(c)[1]));
        }
    }

    /** Whether a ; follows; else the text must be at its end. */
    private boolean goesOn() {
        if (atEnd()) {
            return false;
        }
        if (peek().sign != ';') {
            throw new Fault(peek().at);
        }
        upcoming++;
        return true;
    }

    int script() {
        try {
            do {
                if (steps.size() == 16) {
                    throw new Fault(tokens.get(upcoming - 1).at);
                }
                steps.add(step());
            } while (goesOn());
            return Model.NONE;
        } catch (Fault f) {
            return f.at;
        }
    }

    private Model.Step step() {
        int at = peek().at;
        int what = "pdcxolfry".indexOf(letter());
        switch (what) {
            case -1:
                throw new Fault(at);
            case 0:
                int key = number(0, 31);
                Token t = peek();
                if (t.sign != '=') {
                    throw new Fault(t.at);
                }
                upcoming++;
                return new Model.Step(0, key, number(0, 999));
            case 1:
                return new Model.Step(1, number(0, 31), Model.NONE);
            case 2, 3:
                return new Model.Step(what, Model.NONE, Model.NONE);
            default:
                return new Model.Step(what, digit(), Model.NONE);
        }
    }
}
