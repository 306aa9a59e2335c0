import java.util.NoSuchElementException;

/**
 * A machine for nested places that enter, leave and open one another.
 * What each call promises is said in DOC.md, under the number beside it.
 */
public final class MovingBoxes {
    /** Nothing there. */
    public static final int NONE = -1;

    private static final int MOST_WRITTEN = 120;
    private static final int MOST_TOLD = 240;
    private static final int MOST_NODES = 50;
    private static final int MOST_DEEP = 8;
    private static final int MOST_PLACES = 20;
    private static final int MOST_GUARDS = 40;
    private static final int MOST_MESSAGES = 30;
    /** Each guard with each message: no other kind has as many others. */
    private static final int MOST_REDEXES = MOST_GUARDS * MOST_MESSAGES;
    private static final int MOST_STEPS = 30;
    private static final int MOST_FOUND = 30;
    /** Places stand in one another at most 20 deep, and a tail's parts 8 deep behind that. */
    private static final int MOST_LEVELS = 40;
    private static final int NAMES = 6;
    private static final int SLOTS = 3;

    /** Stands for the root where a place's number is asked for. */
    private static final int ROOT = -1;

    private static final int IN = 0;
    private static final int OUT = 1;
    private static final int OPEN = 2;
    private static final int INPUT = 3;
    private static final int PLACE = 4;
    private static final int MESSAGE = 5;
    private static final String SIGNS = "><^?";

    private final char[] written = new char[MOST_WRITTEN];
    private int writtenLength;
    private final Term term = new Term();
    private final Teller teller = new Teller();
    private State state = new State();
    private State spare = new State();
    private Redexes present = new Redexes();
    private Redexes past = new Redexes();
    private int steps;
    private final Line[] kept = new Line[SLOTS];
    private final Explorer explorer = new Explorer();

    /** Promise 1. */
    public MovingBoxes() {
        for (int slot = 0; slot < SLOTS; slot++) {
            kept[slot] = new Line();
        }
        state.clear();
    }

    /** Promise 2. */
    public int write(long eight, int n) throws IllegalArgumentException, IllegalStateException {
        if (n < 1 || n > 8 || !areCharacters(eight, n)) {
            throw new IllegalArgumentException();
        }
        if (writtenLength + n > MOST_WRITTEN) {
            throw new IllegalStateException();
        }
        for (int i = 0; i < n; i++) {
            written[writtenLength + i] = (char) byteOf(eight, i);
        }
        writtenLength += n;
        return writtenLength;
    }

    /** Promise 3. */
    public int erase() {
        int had = writtenLength;
        writtenLength = 0;
        return had;
    }

    /** Promise 4. */
    public int read() throws IllegalArgumentException, IllegalStateException, UnsupportedOperationException {
        // All is forgotten before the text is looked at, so that a throw leaves the root alone.
        state.clear();
        present.clear();
        steps = 0;
        explorer.forget();
        term.parse(written, writtenLength);
        if (!spare.begin(term) || !teller.tell(spare, term)) {
            throw new UnsupportedOperationException();
        }
        goOn();
        return term.size;
    }

    /** Promise 5. */
    public int redexes() {
        return present.size;
    }

    /** Promise 6. */
    public int redex(int k, int what) throws IndexOutOfBoundsException {
        if (!present.has(k)) {
            throw new IndexOutOfBoundsException();
        }
        switch (what) {
            case 0: return present.kind[k];
            case 1: return present.guard[k];
            case 2: return present.other[k];
            case 3: return steps - present.since[k];
            default: throw new IndexOutOfBoundsException();
        }
    }

    /** Promise 7. */
    public int take(int k) throws IndexOutOfBoundsException, UnsupportedOperationException {
        if (!present.has(k)) {
            throw new IndexOutOfBoundsException();
        }
        if (!stepped(k)) {
            throw new UnsupportedOperationException();
        }
        return present.size;
    }

    /** Promise 8. */
    public int fair(int n) throws IllegalArgumentException, UnsupportedOperationException {
        if (n < 1 || n > MOST_STEPS) {
            throw new IllegalArgumentException();
        }
        int done = 0;
        while (done < n && present.size > 0) {
            if (!stepped(present.oldest())) {
                throw new UnsupportedOperationException();
            }
            done++;
        }
        return done;
    }

    /** Promise 9. */
    public int count(int what) throws IndexOutOfBoundsException {
        switch (what) {
            case 0: return state.places.size;
            case 1: return state.guards.size;
            case 2: return state.messages.size;
            case 3: return state.nextNumber;
            case 4: return steps;
            default: throw new IndexOutOfBoundsException();
        }
    }

    /** Promise 10. */
    public int letter(int i) throws IndexOutOfBoundsException {
        if (i < 0) {
            throw new IndexOutOfBoundsException();
        }
        return i < state.text.length ? state.text.letters[i] : NONE;
    }

    /** Promise 11. */
    public int keep(int slot) throws IndexOutOfBoundsException {
        if (!isSlot(slot)) {
            throw new IndexOutOfBoundsException();
        }
        kept[slot].set(state.text.letters, state.text.length);
        return state.text.length;
    }

    /** Promise 12. */
    public boolean equal(int slot) throws IndexOutOfBoundsException, NoSuchElementException {
        if (!isSlot(slot)) {
            throw new IndexOutOfBoundsException();
        }
        // No state's text is empty, so an empty line was never kept.
        if (kept[slot].length == 0) {
            throw new NoSuchElementException();
        }
        return state.text.isSame(kept[slot]);
    }

    /** Promise 13. */
    public boolean shows(int outer, int inner) throws IllegalArgumentException {
        if (!isName(outer) || !isName(inner)) {
            throw new IllegalArgumentException();
        }
        return state.hasShape(outer, inner);
    }

    /** Promise 14. */
    public int explore(int limit, int outer, int inner) throws IllegalArgumentException {
        if (limit < 1 || limit > MOST_FOUND || !isName(outer) || !isName(inner)) {
            throw new IllegalArgumentException();
        }
        explorer.goOver(state, limit, term, teller);
        explorer.lookFor(outer, inner);
        return explorer.size;
    }

    /** Promise 15. */
    public int explored(int what) throws IndexOutOfBoundsException {
        switch (what) {
            case 0: return explorer.size;
            case 1: return explorer.isComplete ? 1 : 0;
            case 2: return explorer.stuck;
            case 3: return explorer.nearest;
            case 4: return explorer.farthest();
            default: throw new IndexOutOfBoundsException();
        }
    }

    private static int byteOf(long eight, int i) {
        return (int) (eight >> 8 * i) & 255;
    }

    private static boolean areCharacters(long eight, int n) {
        for (int i = 0; i < n; i++) {
            int c = byteOf(eight, i);
            if (c < 32 || c > 126) {
                return false;
            }
        }
        return true;
    }

    private static boolean isSlot(int slot) {
        return slot >= 0 && slot < SLOTS;
    }

    private static boolean isName(int name) {
        return name >= 0 && name < NAMES;
    }

    /** Takes the k-th redex, unless that would be too much: whether it was taken. */
    private boolean stepped(int k) {
        if (!spare.follow(state, present, k, term) || !teller.tell(spare, term)) {
            return false;
        }
        steps++;
        goOn();
        return true;
    }

    /** The state that was prepared is the present one from now on. */
    private void goOn() {
        State left = state;
        state = spare;
        spare = left;
        Redexes older = present;
        present = past;
        past = older;
        present.find(state, term);
        present.date(past, steps);
    }

    /** The name (0 .. 5) that a letter of a text means, or NONE. */
    private static int meant(char letter, int meanings) {
        return letter < 'x' ? letter - 'a' : (meanings >> 3 * (letter - 'x') & 7) - 1;
    }

    /** The meanings, with another one (or NONE) for a letter x, y or z: three bits for each. */
    private static int bind(char letter, int name, int meanings) {
        int shift = 3 * (letter - 'x');
        return meanings & ~(7 << shift) | (name + 1) << shift;
    }

    /** The text of a state. */
    private static final class Line {
        private final char[] letters = new char[MOST_TOLD];
        private int length;

        void set(char[] from, int many) {
            length = Math.min(many, MOST_TOLD);
            System.arraycopy(from, 0, letters, 0, length);
        }

        boolean isSame(Line line) {
            if (length != line.length) {
                return false;
            }
            for (int i = 0; i < length; i++) {
                if (letters[i] != line.letters[i]) {
                    return false;
                }
            }
            return true;
        }
    }

    /**
     * The text that was read, as its nodes in the order in which they begin.
     * 0 and ( ) leave no trace: they change neither how parts are run nor how they are told.
     * What is inside of a node stands right behind it, up to its end.
     */
    private static final class Term {
        private final int[] kind = new int[MOST_NODES];
        private final char[] name = new char[MOST_NODES];
        private final boolean[] isReplica = new boolean[MOST_NODES];
        private final int[] end = new int[MOST_NODES];
        private int size;

        private final char[] letters = new char[MOST_WRITTEN];
        private int length;
        private int at;

        /** Where the next node beside this one would be; always further on, so that loops end. */
        int after(int node) {
            return Math.max(node + 1, end[node]);
        }

        void parse(char[] text, int many) {
            length = 0;
            for (int i = 0; i < many; i++) {
                if (text[i] != ' ') {
                    letters[length++] = text[i];
                }
            }
            size = 0;
            at = 0;
            parseProcess(1, 0);
            if (at < length) {
                throw new IllegalArgumentException();
            }
        }

        /** The letters that inputs bind here are the bits of bound. */
        private void parseProcess(int depth, int bound) {
            parsePart(depth, bound);
            while (at < length && letters[at] == '|') {
                at++;
                parsePart(depth, bound);
            }
        }

        private void parsePart(int depth, int bound) {
            if (depth > MOST_DEEP) {
                throw new IllegalStateException();
            }
            char c = peek();
            if (c == '0') {
                at++;
            } else if (c == '(') {
                at++;
                parseProcess(depth + 1, bound);
                skip(')');
            } else if (c == '\'') {
                parseMessage(bound);
            } else if (c >= 'a' && c <= 'z') {
                parsePlace(depth, bound);
            } else {
                parseGuard(depth, bound);
            }
        }

        private void parseMessage(int bound) {
            int node = addNode(MESSAGE, false);
            at++;
            name[node] = parseName(bound);
        }

        private void parsePlace(int depth, int bound) {
            int node = addNode(PLACE, false);
            name[node] = parseName(bound);
            skip('[');
            parseProcess(depth + 1, bound);
            skip(']');
            end[node] = size;
        }

        private void parseGuard(int depth, int bound) {
            boolean replica = peek() == '!';
            if (replica) {
                at++;
            }
            int guardKind = SIGNS.indexOf(peek());
            if (guardKind < 0) {
                throw new IllegalArgumentException();
            }
            int node = addNode(guardKind, replica);
            at++;
            int boundInTail = bound;
            if (guardKind == INPUT) {
                name[node] = parseLetter();
                boundInTail |= bitOf(name[node]);
            } else {
                name[node] = parseName(bound);
            }
            skip('.');
            parsePart(depth + 1, boundInTail);
            end[node] = size;
        }

        private char parseName(int bound) {
            char c = peek();
            boolean isBound = isLetter(c) && (bound & bitOf(c)) != 0;
            if (!isBound && (c < 'a' || c > 'f')) {
                throw new IllegalArgumentException();
            }
            at++;
            return c;
        }

        private char parseLetter() {
            char c = peek();
            if (!isLetter(c)) {
                throw new IllegalArgumentException();
            }
            at++;
            return c;
        }

        private static boolean isLetter(char c) {
            return c >= 'x' && c <= 'z';
        }

        private static int bitOf(char letter) {
            return 1 << (letter - 'x');
        }

        private int addNode(int nodeKind, boolean replica) {
            if (size >= MOST_NODES) {
                throw new IllegalStateException();
            }
            int node = size++;
            kind[node] = nodeKind;
            isReplica[node] = replica;
            end[node] = size;
            return node;
        }

        /** The character that comes next; at the end one that no text has. */
        private char peek() {
            return at < length ? letters[at] : (char) 0;
        }

        private void skip(char c) {
            if (peek() != c) {
                throw new IllegalArgumentException();
            }
            at++;
        }
    }

    /** The places, guards or messages of a state, in the order of their numbers. */
    private static final class Things {
        private final int[] number;
        private final int[] in;
        private final int[] name;
        private final int[] node;
        private final int[] meanings;
        private int size;

        Things(int most) {
            number = new int[most];
            in = new int[most];
            name = new int[most];
            node = new int[most];
            meanings = new int[most];
        }

        void copy(Things from) {
            size = Math.min(from.size, number.length);
            System.arraycopy(from.number, 0, number, 0, size);
            System.arraycopy(from.in, 0, in, 0, size);
            System.arraycopy(from.name, 0, name, 0, size);
            System.arraycopy(from.node, 0, node, 0, size);
            System.arraycopy(from.meanings, 0, meanings, 0, size);
        }

        /** Adds one behind the others: whether there was room for it. */
        boolean add(int newNumber, int place, int newName, int newNode, int newMeanings) {
            if (size >= number.length) {
                return false;
            }
            number[size] = newNumber;
            in[size] = place;
            name[size] = newName;
            node[size] = newNode;
            meanings[size] = newMeanings;
            size++;
            return true;
        }

        void remove(int gone) {
            if (gone < 0 || gone >= size) {
                return;
            }
            size--;
            for (int i = gone; i < size; i++) {
                number[i] = number[i + 1];
                in[i] = in[i + 1];
                name[i] = name[i + 1];
                node[i] = node[i + 1];
                meanings[i] = meanings[i + 1];
            }
        }

        /** Where the one with this number is, or NONE (as for the root). */
        int indexOf(int wanted) {
            for (int i = 0; i < size; i++) {
                if (number[i] == wanted) {
                    return i;
                }
            }
            return NONE;
        }

        /** All that is in one place is in the other one. */
        void moveAll(int from, int to) {
            for (int i = 0; i < size; i++) {
                if (in[i] == from) {
                    in[i] = to;
                }
            }
        }
    }

    /** Places in one another, told by their numbers, with guards and messages in them. */
    private static final class State {
        private final Things places = new Things(MOST_PLACES);
        private final Things guards = new Things(MOST_GUARDS);
        private final Things messages = new Things(MOST_MESSAGES);
        private final Line text = new Line();
        private int nextNumber;
        private boolean isTooMuch;

        /** Becomes the root alone. */
        void clear() {
            places.size = 0;
            guards.size = 0;
            messages.size = 0;
            nextNumber = 0;
            isTooMuch = false;
            text.letters[0] = '0';
            text.length = 1;
        }

        void copy(State from) {
            places.copy(from.places);
            guards.copy(from.guards);
            messages.copy(from.messages);
            text.set(from.text.letters, from.text.length);
            nextNumber = from.nextNumber;
            isTooMuch = false;
        }

        /** Becomes what the term makes of a root alone, but for the text: whether there is room. */
        boolean begin(Term term) {
            clear();
            run(term, 0, term.size, ROOT, 0, 1);
            return !isTooMuch;
        }

        /** Becomes what taking a redex makes of another state, but for the text: whether there is room. */
        boolean follow(State before, Redexes redexes, int k, Term term) {
            copy(before);
            react(term, guards.indexOf(redexes.guard[k]), redexes.other[k]);
            return !isTooMuch;
        }

        private void react(Term term, int guard, int other) {
            if (guard < 0) {
                return;
            }
            int node = guards.node[guard];
            int place = guards.in[guard];
            int meanings = guards.meanings[guard];
            if (!term.isReplica[node]) {
                guards.remove(guard);
            }
            switch (term.kind[node]) {
                case IN: move(place, other); break;
                case OUT: move(place, placeOf(other)); break;
                case OPEN: dissolve(other, place); break;
                default: meanings = bind(term.name[node], receive(other), meanings);
            }
            run(term, node + 1, term.after(node), place, meanings, 1);
        }

        private int placeOf(int number) {
            int place = places.indexOf(number);
            return place < 0 ? ROOT : places.in[place];
        }

        private void move(int number, int to) {
            int place = places.indexOf(number);
            if (place >= 0) {
                places.in[place] = to;
            }
        }

        private void dissolve(int number, int to) {
            places.remove(places.indexOf(number));
            places.moveAll(number, to);
            guards.moveAll(number, to);
            messages.moveAll(number, to);
        }

        /** Takes a message away: its name. */
        private int receive(int number) {
            int message = messages.indexOf(number);
            if (message < 0) {
                return NONE;
            }
            int name = messages.name[message];
            messages.remove(message);
            return name;
        }

        private void run(Term term, int from, int to, int place, int meanings, int depth) {
            if (depth > MOST_DEEP) {
                isTooMuch = true;
                return;
            }
            for (int node = from; node < to && !isTooMuch; node = term.after(node)) {
                int number = nextNumber++;
                int name = meant(term.name[node], meanings);
                // Running only adds, so what has no room here would be too much at the end as well.
                isTooMuch = !sort(term.kind[node]).add(number, place, name, node, meanings);
                if (term.kind[node] == PLACE && !isTooMuch) {
                    run(term, node + 1, term.after(node), number, meanings, depth + 1);
                }
            }
        }

        private Things sort(int kind) {
            switch (kind) {
                case PLACE: return places;
                case MESSAGE: return messages;
                default: return guards;
            }
        }

        boolean hasShape(int outer, int inner) {
            for (int i = 0; i < places.size; i++) {
                int around = places.name[i] == inner ? places.indexOf(places.in[i]) : NONE;
                if (around >= 0 && places.name[around] == outer) {
                    return true;
                }
            }
            return false;
        }
    }

    /**
     * Makes the texts of states. The texts of what is beside one another are written one behind
     * the other as pieces, and then put in order with | between. What is written is never longer
     * than the whole text will be, so what has no room here makes the state too much.
     */
    private static final class Teller {
        private final char[] letters = new char[MOST_TOLD];
        private final char[] ordered = new char[MOST_TOLD];
        private int length;
        /** Where the pieces stand that were not joined yet; those beside one another in order. */
        private final int[] begin = new int[MOST_TOLD];
        private final int[] end = new int[MOST_TOLD];
        private int pieces;
        private boolean isTooLong;

        /** Gives a state its text: whether it is not too long. */
        boolean tell(State state, Term term) {
            length = 0;
            pieces = 0;
            isTooLong = false;
            tellPlace(state, term, ROOT, 0);
            if (!isTooLong) {
                state.text.set(letters, length);
            }
            return !isTooLong;
        }

        private void tellPlace(State state, Term term, int place, int level) {
            int first = pieces;
            int from = length;
            if (level > MOST_LEVELS) {
                isTooLong = true;
            }
            for (int i = 0; i < state.places.size && !isTooLong; i++) {
                if (state.places.in[i] == place) {
                    int start = length;
                    put((char) ('a' + state.places.name[i]));
                    put('[');
                    tellPlace(state, term, state.places.number[i], level + 1);
                    put(']');
                    addPiece(first, start);
                }
            }
            for (int i = 0; i < state.guards.size && !isTooLong; i++) {
                if (state.guards.in[i] == place) {
                    int start = length;
                    tellNode(term, state.guards.node[i], state.guards.meanings[i], level + 1);
                    addPiece(first, start);
                }
            }
            for (int i = 0; i < state.messages.size && !isTooLong; i++) {
                if (state.messages.in[i] == place) {
                    int start = length;
                    put('\'');
                    put((char) ('a' + state.messages.name[i]));
                    addPiece(first, start);
                }
            }
            join(first, from, false);
        }

        private void tellNode(Term term, int node, int meanings, int level) {
            int kind = term.kind[node];
            // An INPUT's own letter means nothing in its tail, whatever it meant outside.
            int inside = kind == INPUT ? bind(term.name[node], NONE, meanings) : meanings;
            putHead(term, node, inside);
            if (level > MOST_LEVELS) {
                isTooLong = true;
            }
            if (kind == MESSAGE || isTooLong) {
                return;
            }
            int first = pieces;
            int from = length;
            int to = term.after(node);
            for (int part = node + 1; part < to && !isTooLong; part = term.after(part)) {
                int start = length;
                tellNode(term, part, inside, level + 1);
                addPiece(first, start);
            }
            join(first, from, kind != PLACE);
            if (kind == PLACE) {
                put(']');
            }
        }

        /** All that stands before the parts of a node. */
        private void putHead(Term term, int node, int meanings) {
            int kind = term.kind[node];
            if (kind == PLACE) {
                putName(term.name[node], meanings);
                put('[');
            } else if (kind == MESSAGE) {
                put('\'');
                putName(term.name[node], meanings);
            } else {
                if (term.isReplica[node]) {
                    put('!');
                }
                put(SIGNS.charAt(kind));
                putName(term.name[node], meanings);
                put('.');
            }
        }

        private void putName(char letter, int meanings) {
            int name = meant(letter, meanings);
            put(name < 0 ? letter : (char) ('a' + name));
        }

        private void put(char c) {
            if (length < MOST_TOLD) {
                letters[length++] = c;
            } else {
                isTooLong = true;
            }
        }

        /** What was written from the start on takes its turn among the pieces from the first one on. */
        private void addPiece(int first, int start) {
            if (pieces >= MOST_TOLD) {
                isTooLong = true;
                return;
            }
            int hole = pieces++;
            while (hole > first && isBefore(start, length, begin[hole - 1], end[hole - 1])) {
                begin[hole] = begin[hole - 1];
                end[hole] = end[hole - 1];
                hole--;
            }
            begin[hole] = start;
            end[hole] = length;
        }

        private boolean isBefore(int from, int to, int otherFrom, int otherTo) {
            int shorter = Math.min(to - from, otherTo - otherFrom);
            for (int i = 0; i < shorter; i++) {
                if (letters[from + i] != letters[otherFrom + i]) {
                    return letters[from + i] < letters[otherFrom + i];
                }
            }
            return to - from < otherTo - otherFrom;
        }

        /** Makes one text of the pieces from the first one on; several of a tail stand in ( ). */
        private void join(int first, int from, boolean isTail) {
            int many = pieces - first;
            if (many == 0) {
                put('0');
            } else if (many > 1) {
                int joined = length - from + many - 1 + (isTail ? 2 : 0);
                if (isTooLong || from + joined > MOST_TOLD) {
                    isTooLong = true;
                } else {
                    copyOrdered(first, isTail);
                    System.arraycopy(ordered, 0, letters, from, joined);
                    length = from + joined;
                }
            }
            pieces = first;
        }

        private void copyOrdered(int first, boolean isTail) {
            int at = 0;
            if (isTail) {
                ordered[at++] = '(';
            }
            for (int i = first; i < pieces; i++) {
                if (i > first) {
                    ordered[at++] = '|';
                }
                System.arraycopy(letters, begin[i], ordered, at, end[i] - begin[i]);
                at += end[i] - begin[i];
            }
            if (isTail) {
                ordered[at] = ')';
            }
        }
    }

    /** The redexes of a state in their order, which is that of both numbers. */
    private static final class Redexes {
        private final int[] kind = new int[MOST_REDEXES];
        private final int[] guard = new int[MOST_REDEXES];
        private final int[] other = new int[MOST_REDEXES];
        /** How many steps had been taken when it came. */
        private final int[] since = new int[MOST_REDEXES];
        private int size;

        void clear() {
            size = 0;
        }

        boolean has(int k) {
            return k >= 0 && k < size;
        }

        void find(State state, Term term) {
            size = 0;
            for (int i = 0; i < state.guards.size; i++) {
                int guardKind = term.kind[state.guards.node[i]];
                switch (guardKind) {
                    case IN: findBeside(state, i); break;
                    case OUT: findAround(state, i); break;
                    case OPEN: findInside(state, i); break;
                    default: findMessages(state, i);
                }
            }
        }

        private void findBeside(State state, int i) {
            Things places = state.places;
            int entering = places.indexOf(state.guards.in[i]);
            if (entering < 0) {
                return;
            }
            for (int m = 0; m < places.size; m++) {
                if (m != entering && places.in[m] == places.in[entering] && places.name[m] == state.guards.name[i]) {
                    add(IN, state.guards.number[i], places.number[m]);
                }
            }
        }

        private void findAround(State state, int i) {
            Things places = state.places;
            int leaving = places.indexOf(state.guards.in[i]);
            int m = leaving < 0 ? NONE : places.indexOf(places.in[leaving]);
            if (m >= 0 && places.name[m] == state.guards.name[i]) {
                add(OUT, state.guards.number[i], places.number[m]);
            }
        }

        private void findInside(State state, int i) {
            Things places = state.places;
            for (int m = 0; m < places.size; m++) {
                if (places.in[m] == state.guards.in[i] && places.name[m] == state.guards.name[i]) {
                    add(OPEN, state.guards.number[i], places.number[m]);
                }
            }
        }

        private void findMessages(State state, int i) {
            Things messages = state.messages;
            for (int m = 0; m < messages.size; m++) {
                if (messages.in[m] == state.guards.in[i]) {
                    add(INPUT, state.guards.number[i], messages.number[m]);
                }
            }
        }

        private void add(int guardKind, int guardNumber, int otherNumber) {
            if (size < MOST_REDEXES) {
                kind[size] = guardKind;
                guard[size] = guardNumber;
                other[size] = otherNumber;
                size++;
            }
        }

        /** Says since when each is there, by what was there a step ago; both rows are in order. */
        void date(Redexes before, int steps) {
            int at = 0;
            for (int i = 0; i < size; i++) {
                while (at < before.size && before.compare(at, guard[i], other[i]) < 0) {
                    at++;
                }
                boolean stayed = at < before.size && before.compare(at, guard[i], other[i]) == 0;
                since[i] = stayed ? before.since[at] : steps;
            }
        }

        private int compare(int k, int guardNumber, int otherNumber) {
            return guard[k] != guardNumber
                ? Integer.compare(guard[k], guardNumber)
                : Integer.compare(other[k], otherNumber);
        }

        int oldest() {
            int oldest = 0;
            for (int k = 1; k < size; k++) {
                if (since[k] < since[oldest]) {
                    oldest = k;
                }
            }
            return oldest;
        }
    }

    /** The latest exploring: its states in the order in which they were found. */
    private static final class Explorer {
        private final State[] found = new State[MOST_FOUND];
        private final int[] distance = new int[MOST_FOUND];
        private final Redexes redexes = new Redexes();
        private int size;
        private boolean isComplete;
        private int stuck;
        private int nearest = NONE;

        Explorer() {
            for (int i = 0; i < MOST_FOUND; i++) {
                found[i] = new State();
            }
        }

        void forget() {
            size = 0;
            isComplete = false;
            stuck = 0;
            nearest = NONE;
        }

        /** Goes over states from this one on, until as many are found as the limit says. */
        void goOver(State start, int limit, Term term, Teller teller) {
            forget();
            found[0].copy(start);
            distance[0] = 0;
            size = 1;
            int at = 0;
            while (at < size && size < limit) {
                redexes.find(found[at], term);
                if (redexes.size == 0) {
                    stuck++;
                }
                for (int k = 0; k < redexes.size && size < limit; k++) {
                    // The row's first free state is tried, and counts from now on if it is new.
                    State next = found[size];
                    if (next.follow(found[at], redexes, k, term) && teller.tell(next, term) && isNew(next)) {
                        distance[size] = distance[at] + 1;
                        size++;
                    }
                }
                at++;
            }
            isComplete = size < limit;
        }

        private boolean isNew(State state) {
            for (int i = 0; i < size; i++) {
                if (found[i].text.isSame(state.text)) {
                    return false;
                }
            }
            return true;
        }

        /** Distances never fall along the row, so the first state with the shape is the nearest. */
        void lookFor(int outer, int inner) {
            nearest = NONE;
            for (int i = 0; i < size && nearest == NONE; i++) {
                if (found[i].hasShape(outer, inner)) {
                    nearest = distance[i];
                }
            }
        }

        int farthest() {
            return size == 0 ? 0 : distance[size - 1];
        }
    }
}
