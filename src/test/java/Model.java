import java.util.ArrayList;
import java.util.Arrays;
import java.util.Collections;
import java.util.LinkedHashMap;
import java.util.List;
import java.util.Map;
import java.util.stream.Collectors;

/**
 * The document once more, in another way than the program: a tree of parts with 0 and ( ) in it,
 * names put in for letters in the parts themselves, and texts as strings. It is slow and plain, and
 * the program's answers are held against its own. Exceptions are told by their names.
 */
final class Model {
    static final String IAE = "throws.IllegalArgumentException";
    static final String ISE = "throws.IllegalStateException";
    static final String UOE = "throws.UnsupportedOperationException";
    static final String IOOBE = "throws.IndexOutOfBoundsException";
    static final String NSEE = "throws.NoSuchElementException";

    /** Sign: 0 ( [ ' > < ^ ? as in the text. */
    private record Part(char sign, char name, boolean replica, List<Part> parts) {
        Part with(char letter, char meaning) {
            char put = sign != '?' && name == letter ? meaning : name;
            boolean hidden = sign == '?' && name == letter;
            return new Part(sign, put, replica, hidden ? parts : withAll(parts, letter, meaning));
        }

        static List<Part> withAll(List<Part> parts, char letter, char meaning) {
            return parts.stream().map(p -> p.with(letter, meaning)).collect(Collectors.toList());
        }

        String text() {
            switch (sign) {
                case '[': return name + "[" + joined(texts(parts)) + "]";
                case '\'': return "'" + name;
                default: return (replica ? "!" : "") + sign + name + "." + tailText();
            }
        }

        private String tailText() {
            List<String> texts = texts(parts);
            return texts.size() > 1 ? "(" + joined(texts) + ")" : joined(texts);
        }

        private static List<String> texts(List<Part> parts) {
            List<String> texts = new ArrayList<>();
            for (Part part : parts) {
                if (part.sign == '(') {
                    texts.addAll(texts(part.parts));
                } else if (part.sign != '0') {
                    texts.add(part.text());
                }
            }
            return texts;
        }
    }

    static String joined(List<String> texts) {
        if (texts.isEmpty()) {
            return "0";
        }
        Collections.sort(texts);
        return String.join("|", texts);
    }

    private static final class Refused extends Exception {
        Refused(String name) {
            super(name);
        }
    }

    private static final class Parser {
        final String text;
        int at;
        int nodes;

        Parser(String text) {
            this.text = text.replace(" ", "");
        }

        List<Part> whole() throws Refused {
            List<Part> parts = process(1, "");
            if (at != text.length()) {
                throw new Refused(IAE);
            }
            return parts;
        }

        char next() throws Refused {
            if (at == text.length()) {
                throw new Refused(IAE);
            }
            return text.charAt(at++);
        }

        void want(char c) throws Refused {
            if (next() != c) {
                throw new Refused(IAE);
            }
        }

        List<Part> process(int depth, String bound) throws Refused {
            List<Part> parts = new ArrayList<>();
            parts.add(part(depth, bound));
            while (at < text.length() && text.charAt(at) == '|') {
                at++;
                parts.add(part(depth, bound));
            }
            return parts;
        }

        Part part(int depth, String bound) throws Refused {
            if (depth > 8) {
                throw new Refused(ISE);
            }
            char c = next();
            if (c == '0') {
                return new Part('0', '-', false, List.of());
            }
            if (c == '(') {
                List<Part> parts = process(depth + 1, bound);
                want(')');
                return new Part('(', '-', false, parts);
            }
            boolean replica = c == '!';
            char sign = replica ? next() : c;
            boolean guard = "><^?".indexOf(sign) >= 0;
            boolean place = !replica && Character.isLowerCase(sign);
            if (!guard && !place && (replica || sign != '\'')) {
                throw new Refused(IAE);
            }
            if (++nodes > 50) {
                throw new Refused(ISE);
            }
            char name = place ? c : next();
            if ((sign == '?' ? "xyz" : "abcdef" + bound).indexOf(name) < 0) {
                throw new Refused(IAE);
            }
            if (place) {
                want('[');
                List<Part> parts = process(depth + 1, bound);
                want(']');
                return new Part('[', name, false, parts);
            }
            if (sign == '\'') {
                return new Part(sign, name, false, List.of());
            }
            want('.');
            return new Part(sign, name, replica, List.of(part(depth + 1, sign == '?' ? bound + name : bound)));
        }
    }

    /** A place, a guard or a message; of the root the part is null. */
    private static final class Thing {
        final int number;
        final Part part;
        Thing in;
        final List<Thing> inside = new ArrayList<>();

        Thing(int number, Part part) {
            this.number = number;
            this.part = part;
        }

        boolean isPlace(char name) {
            return part != null && part.sign == '[' && part.name == name;
        }

        String text() {
            List<String> texts = inside.stream().map(Thing::text).collect(Collectors.toList());
            if (part == null) {
                return joined(texts);
            }
            return part.sign == '[' ? part.name + "[" + joined(texts) + "]" : part.text();
        }

        void moveTo(Thing place) {
            if (in != null) {
                in.inside.remove(this);
            }
            in = place;
            if (place != null) {
                place.inside.add(this);
            }
        }
    }

    private static final class State {
        final Thing root = new Thing(-1, null);
        int next;

        State copy() {
            State copy = new State();
            copy.next = next;
            copyInside(root, copy.root);
            return copy;
        }

        private static void copyInside(Thing from, Thing to) {
            for (Thing thing : from.inside) {
                Thing copy = new Thing(thing.number, thing.part);
                copy.moveTo(to);
                copyInside(thing, copy);
            }
        }

        List<Thing> all() {
            List<Thing> all = new ArrayList<>();
            collect(root, all);
            all.sort((a, b) -> Integer.compare(a.number, b.number));
            return all;
        }

        private static void collect(Thing place, List<Thing> all) {
            for (Thing thing : place.inside) {
                all.add(thing);
                collect(thing, all);
            }
        }

        Thing numbered(int number) {
            return all().stream().filter(t -> t.number == number).findFirst().orElseThrow();
        }

        int count(String signs) {
            return (int) all().stream().filter(t -> signs.indexOf(t.part.sign) >= 0).count();
        }

        /** Places, guards, messages and characters of the text, by how much each is over its limit. */
        int[] over() {
            return new int[] {count("[") - 20, count("><^?") - 40, count("'") - 30, root.text().length() - 240};
        }

        boolean tooMuch() {
            return Arrays.stream(over()).anyMatch(over -> over > 0);
        }

        void run(List<Part> parts, Thing place) {
            for (Part part : parts) {
                if (part.sign == '(') {
                    run(part.parts, place);
                } else if (part.sign != '0') {
                    Thing made = new Thing(next++, part);
                    made.moveTo(place);
                    if (part.sign == '[') {
                        run(part.parts, made);
                    }
                }
            }
        }

        /** Kind, guard and other of each. */
        List<int[]> redexes() {
            List<int[]> found = new ArrayList<>();
            List<Thing> all = all();
            for (Thing guard : all) {
                for (Thing other : all) {
                    int kind = "><^?".indexOf(guard.part.sign);
                    if (kind >= 0 && fits(guard, other)) {
                        found.add(new int[] {kind, guard.number, other.number});
                    }
                }
            }
            return found;
        }

        private boolean fits(Thing guard, Thing other) {
            Thing q = guard.in;
            char n = guard.part.name;
            switch (guard.part.sign) {
                case '>': return q != root && other != q && other.in == q.in && other.isPlace(n);
                case '<': return q != root && q.in == other && other.isPlace(n);
                case '^': return other.in == q && other.isPlace(n);
                default: return other.in == q && other.part.sign == '\'';
            }
        }

        /** What comes of a redex, be it too much or not. */
        State taken(int[] redex) {
            State after = copy();
            Thing guard = after.numbered(redex[1]);
            Thing other = after.numbered(redex[2]);
            Thing q = guard.in;
            List<Part> tail = guard.part.parts;
            if (!guard.part.replica) {
                guard.moveTo(null);
            }
            switch (guard.part.sign) {
                case '>':
                    q.moveTo(other);
                    break;
                case '<':
                    q.moveTo(other.in);
                    break;
                case '^':
                    new ArrayList<>(other.inside).forEach(t -> t.moveTo(q));
                    other.moveTo(null);
                    break;
                default:
                    other.moveTo(null);
                    tail = Part.withAll(tail, guard.part.name, other.part.name);
            }
            after.run(tail, q);
            return after;
        }

        boolean shows(int outer, int inner) {
            return all().stream().anyMatch(t -> t.isPlace((char) ('a' + inner)) && t.in.isPlace((char) ('a' + outer)));
        }
    }

    private String text = "";
    private State state = new State();
    private final String[] kept = new String[3];
    private final int[] explored = {0, 0, 0, -1, 0};
    private int steps;
    private static final int[] NOTHING = {-1, -1, -1, -1};
    /** How much the state that the latest call tried last was over each limit. */
    private int[] tried = NOTHING;
    private Map<String, Integer> since = new LinkedHashMap<>();

    Object write(long eight, int n) {
        StringBuilder more = new StringBuilder();
        if (n < 1 || n > 8) {
            return IAE;
        }
        for (int i = 0; i < n; i++) {
            long c = eight >>> 8 * i & 255;
            if (c < 32 || c > 126) {
                return IAE;
            }
            more.append((char) c);
        }
        if (text.length() + n > 120) {
            return ISE;
        }
        text += more;
        return text.length();
    }

    Object erase() {
        int had = text.length();
        text = "";
        return had;
    }

    Object read() {
        state = new State();
        steps = 0;
        since.clear();
        forget();
        Parser parser = new Parser(text);
        List<Part> parts;
        try {
            parts = parser.whole();
        } catch (Refused refused) {
            return refused.getMessage();
        }
        State begun = new State();
        begun.run(parts, begun.root);
        if (begun.tooMuch()) {
            return UOE;
        }
        state = begun;
        grow();
        return parser.nodes;
    }

    private void forget() {
        explored[0] = explored[1] = explored[2] = explored[4] = 0;
        explored[3] = -1;
    }

    private void grow() {
        Map<String, Integer> now = new LinkedHashMap<>();
        for (int[] redex : state.redexes()) {
            String both = redex[1] + "," + redex[2];
            now.put(both, since.getOrDefault(both, steps));
        }
        since = now;
    }

    Object redexes() {
        return state.redexes().size();
    }

    Object redex(int k, int what) {
        List<int[]> all = state.redexes();
        if (k < 0 || k >= all.size() || what < 0 || what > 3) {
            return IOOBE;
        }
        return what < 3 ? all.get(k)[what] : age(all.get(k));
    }

    private int age(int[] redex) {
        return steps - since.get(redex[1] + "," + redex[2]);
    }

    Object take(int k) {
        tried = NOTHING;
        List<int[]> all = state.redexes();
        if (k < 0 || k >= all.size()) {
            return IOOBE;
        }
        return step(all.get(k)) ? redexes() : UOE;
    }

    private boolean step(int[] redex) {
        State after = state.taken(redex);
        tried = after.over();
        if (after.tooMuch()) {
            return false;
        }
        state = after;
        steps++;
        grow();
        return true;
    }

    int[] tried() {
        return tried;
    }

    Object fair(int n) {
        tried = NOTHING;
        if (n < 1 || n > 30) {
            return IAE;
        }
        for (int done = 0; done < n; done++) {
            int[] oldest = null;
            for (int[] redex : state.redexes()) {
                if (oldest == null || age(redex) > age(oldest)) {
                    oldest = redex;
                }
            }
            if (oldest == null) {
                return done;
            }
            if (!step(oldest)) {
                return UOE;
            }
        }
        return n;
    }

    Object count(int what) {
        switch (what) {
            case 0: return state.count("[");
            case 1: return state.count("><^?");
            case 2: return state.count("'");
            case 3: return state.next;
            case 4: return steps;
            default: return IOOBE;
        }
    }

    Object letter(int i) {
        String told = state.root.text();
        if (i < 0) {
            return IOOBE;
        }
        return i < told.length() ? told.charAt(i) : -1;
    }

    String told() {
        return state.root.text();
    }

    Object keep(int slot) {
        if (slot < 0 || slot > 2) {
            return IOOBE;
        }
        kept[slot] = told();
        return kept[slot].length();
    }

    Object equal(int slot) {
        if (slot < 0 || slot > 2) {
            return IOOBE;
        }
        return kept[slot] == null ? NSEE : (Object) kept[slot].equals(told());
    }

    Object shows(int outer, int inner) {
        return outer < 0 || outer > 5 || inner < 0 || inner > 5 ? IAE : (Object) state.shows(outer, inner);
    }

    Object explore(int limit, int outer, int inner) {
        if (limit < 1 || limit > 30 || outer < 0 || outer > 5 || inner < 0 || inner > 5) {
            return IAE;
        }
        forget();
        List<State> found = new ArrayList<>(List.of(state));
        List<String> texts = new ArrayList<>(List.of(told()));
        List<Integer> distances = new ArrayList<>(List.of(0));
        explored[1] = limit > 1 ? 1 : 0;
        over:
        for (int at = 0; at < found.size() && limit > 1; at++) {
            List<int[]> redexes = found.get(at).redexes();
            for (int[] redex : redexes) {
                State after = found.get(at).taken(redex);
                if (!after.tooMuch() && !texts.contains(after.root.text())) {
                    found.add(after);
                    texts.add(after.root.text());
                    distances.add(distances.get(at) + 1);
                    if (found.size() == limit) {
                        explored[1] = 0;
                        break over;
                    }
                }
            }
            explored[2] += redexes.isEmpty() ? 1 : 0;
        }
        explored[0] = found.size();
        for (int i = 0; i < found.size(); i++) {
            explored[4] = Math.max(explored[4], distances.get(i));
            if (found.get(i).shows(outer, inner) && (explored[3] < 0 || distances.get(i) < explored[3])) {
                explored[3] = distances.get(i);
            }
        }
        return found.size();
    }

    Object explored(int what) {
        return what < 0 || what > 4 ? IOOBE : (Object) explored[what];
    }
}
