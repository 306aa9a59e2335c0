/**
 * "A state is TOO MUCH with more than 20 places besides the root, 40 waiting guards, 30 messages, or 240
 * characters of its text", by every kind of guard: the last state that is allowed, and the first one that
 * is not, for take, fair and explore (read has it in ReadingEdgesTest).
 */
public final class TooMuchEdgesTest {
    private static final String UOE = "throws.UnsupportedOperationException";
    /** Its redex is the first one as long as it has the one message in the root; each take makes a guard more. */
    private static final String GUARDS = "!?x.('x|>f.0)|'a|";
    /** Each take makes the text 17 characters longer. */
    private static final String LONGER = "!?x.('x|>f.>f.>f.>f.>f.0)|'a|";

    private final Check check = new Check();
    private final Twins twins = new Twins(check);

    public static void main(String[] args) {
        TooMuchEdgesTest test = new TooMuchEdgesTest();
        test.places();
        test.placesThatGoFirst();
        test.messages();
        test.messagesThatGoFirst();
        test.guards();
        test.guardsThatGoFirst();
        test.texts();
        test.textsOfOnePlace();
        test.textsByExploring();
        test.goingOnAfterTooMuch();
        test.placesAndMessagesAtOnce();
        test.noStepAndNothingOlder();
        test.fairStepsUpToTheLimit();
        test.fairTakesTheOldestOrNone();
        test.exploringLeadsNowhere();
        test.exploringUpToTheLimit();
        test.deepestNesting();
        test.check.end();
    }

    private static MovingBoxes pumped(String text, int takes) {
        MovingBoxes boxes = Check.of(text);
        for (int i = 0; i < takes; i++) {
            boxes.take(0);
        }
        boxes.keep(0);
        return boxes;
    }

    /** What is taken fits: it is one of these counts at its limit then, and exploring finds that state too. */
    private void fits(String text, int takes, int k, int what, int limit) {
        MovingBoxes boxes = pumped(text, takes);
        int found = boxes.explore(30, 0, 0);
        String before = Check.counts(boxes);
        check.due("take " + k + " of " + text, Check.answer(() -> boxes.take(k)) instanceof Integer, true);
        check.due("at the limit behind " + before, boxes.count(what), limit);
        check.due("a step", boxes.count(4), takes + 1);
        check.due("found by exploring", found > 1, true);
    }

    private void refuses(String text, int takes, int k) {
        twins.refused("take " + k + " of " + text, () -> pumped(text, takes), boxes -> boxes.take(k), UOE);
    }

    /** The text with one filler more is refused where it is taken without. */
    private void limitByFillers(String movers, int fillers, String filler, int what, int limit) {
        fits(movers + "|" + Check.times(fillers, filler), 0, 0, what, limit);
        refuses(movers + "|" + Check.times(fillers + 1, filler), 0, 0);
    }

    private void places() {
        check.about("Terms: TOO MUCH with more than 20 places besides the root (take)");
        limitByFillers("a[>b.c[0]]|b[0]", 17, "f[0]", 0, 20);
        limitByFillers("b[a[<b.c[0]]]", 17, "f[0]", 0, 20);
        limitByFillers("?x.x[0]|'c", 19, "f[0]", 0, 20);
        limitByFillers("?x.x[x[0]]|'c", 18, "f[0]", 0, 20);
        limitByFillers("?x.(x[0]|(x[0]))|'c", 18, "f[0]", 0, 20);
        limitByFillers("a[!>b.c[0]]|b[0]", 17, "f[0]", 0, 20);
    }

    private void placesThatGoFirst() {
        check.about("Terms: OPEN: all that is in m is in q, and m is gone; then the tail is run in q");
        limitByFillers("^a.(c[0]|c[0])|a[0]", 18, "f[0]", 0, 20);
        limitByFillers("!^a.(c[0]|c[0])|a[0]", 18, "f[0]", 0, 20);
        fits("^a.c[0]|a[0]|" + Check.times(19, "f[0]"), 0, 0, 0, 20);
        fits("^a.c[0]|" + Check.times(20, "a[0]"), 0, 19, 0, 20);
    }

    private void messages() {
        check.about("Terms: TOO MUCH with more than 30 messages (take)");
        limitByFillers("a[>b.'c]|b[0]", 29, "'f", 2, 30);
        limitByFillers("b[a[<b.'c]]", 29, "'f", 2, 30);
        limitByFillers("^a.'c|a[0]", 29, "'f", 2, 30);
        limitByFillers("^a.c['c]|a[0]", 29, "'f", 2, 30);
        limitByFillers("!^a.'c|a['d]", 28, "'f", 2, 30);
    }

    private void messagesThatGoFirst() {
        check.about("Terms: INPUT: the message is gone; then the tail is run in q");
        limitByFillers("?x.('x|'x)", 29, "'f", 2, 30);
        limitByFillers("!?x.('x|'x)", 29, "'f", 2, 30);
        limitByFillers("?x.('x|'x|'c)", 28, "'f", 2, 30);
        fits("?x.'x|" + Check.times(30, "'f"), 0, 29, 2, 30);
    }

    /** The pump's takes make all but the last guards; the mover's redex is the one behind the pump's. */
    private void limitByPump(String mover, int takes) {
        fits(GUARDS + mover, takes, 1, 1, 40);
        refuses(GUARDS + mover, takes + 1, 1);
    }

    private void guards() {
        check.about("Terms: TOO MUCH with more than 40 waiting guards (take)");
        limitByPump("a[>b.(>f.0|<f.0)]|b[0]", 37);
        limitByPump("b[a[<b.(>f.0|<f.0)]]", 37);
        limitByPump("^a.(>f.0|^f.0)|a[0]", 37);
        limitByPump("a[?y.(>f.0|?z.0)|'b]", 37);
        limitByPump("a[!>b.>f.0]|b[0]", 37);
        limitByPump("b[a[!<b.>f.0]]", 37);
        limitByPump("!^a.>f.0|a[0]", 37);
        limitByPump("a[!?y.>f.0|'b]", 37);
        limitByPump("a[!?y.c[>f.0]|'b]", 37);
    }

    private void guardsThatGoFirst() {
        check.about("Terms: the guard is gone, if it is no replica; then the tail is run in q");
        fits(GUARDS + "a[>b.>f.0]|b[0]", 38, 1, 1, 40);
        fits(GUARDS + "b[a[<b.>f.0]]", 38, 1, 1, 40);
        fits(GUARDS + "^a.>f.0|a[0]", 38, 1, 1, 40);
        fits(GUARDS + "a[?y.>f.0|'b]", 38, 1, 1, 40);
        refuses(GUARDS + "^a.>f.0|a[0]", 38, 0);
    }

    /** A part that does nothing: 22 characters, and one more for each of its ! signs. */
    private static String padding(int signs) {
        StringBuilder chain = new StringBuilder();
        for (int guard = 0; guard < 7; guard++) {
            chain.append(guard < signs ? "!>f." : ">f.");
        }
        return chain.append('0').toString();
    }

    /** Takes the mover's redex, which adds so many characters, at all lengths around the limit. */
    private void limitOfText(String mover, int growth) {
        int shortest = Check.of(LONGER + mover + "|" + padding(0)).keep(0);
        int takes = (240 - growth - shortest) / 17;
        int longest = 0;
        for (int more = 0; shortest + 17 * takes + more <= 240; more++) {
            String text = LONGER + mover + "|" + padding(more % 8) + "|>f.>f.0".repeat(more / 8);
            int after = shortest + 17 * takes + more + growth;
            if (after <= 240) {
                MovingBoxes boxes = pumped(text, takes);
                check.due("to " + after + ": " + text, Check.answer(() -> boxes.take(1)) instanceof Integer, true);
                check.due("its length", boxes.keep(1), after);
                check.due("its text", Check.text(boxes).length(), after);
            } else {
                refuses(text, takes, 1);
            }
            longest = after;
        }
        check.due("both sides were looked at", takes > 0 && longest > 241, true);
    }

    private void texts() {
        check.about("Terms: TOO MUCH with more than 240 characters of its text (take)");
        limitOfText("a[!>b.('b|'c|'d|'e)]|b[0]", 10);
        limitOfText("b[a[!<b.('b|'c|'d|'e)]]", 14);
        limitOfText("!^a.('b|'c|'d|'e)|a[0]", 7);
        limitOfText("a[!?y.('b|'c|'d|'e)|'b]", 9);
        limitOfText("a[!?y.e[d[c[b[0]]]]|'b]", 11);
        limitOfText("a[!?y.>y.(>y.0|<y.0)|'b]", 12);
    }

    /** All in one place, or in places in one another: so the text's end is what closes them. */
    private void textsOfOnePlace() {
        check.about("Terms: TOO MUCH with more than 240 characters of its text (in one place)");
        for (int around = 1; around <= 3; around++) {
            int longest = 0;
            for (int signs = 0; signs < 8; signs++) {
                String text = "e[".repeat(around) + "!?x.('x|>f.>f.0)|'a" + "|!>f.0".repeat(signs) + "|>f.0".repeat(7 - signs)
                    + "]".repeat(around);
                MovingBoxes boxes = Check.of(text);
                int length = boxes.keep(0);
                int fit = (240 - length) / 8;
                check.due("takes of " + text, Check.answer(() -> boxes.fair(fit)), fit);
                check.due("its length", boxes.keep(0), length + 8 * fit);
                check.due("one more", Check.answer(() -> boxes.take(0)), UOE);
                check.due("it stays", boxes.equal(0), true);
                check.due("its last letter", boxes.letter(length + 8 * fit - 1), (int) ']');
                longest = Math.max(longest, length + 8 * fit);
            }
            check.due("the longest in " + around, longest, 240);
        }
    }

    private void goingOnAfterTooMuch() {
        check.about("Promise 7: UnsupportedOperationException, when the state would be too much (it stays)");
        MovingBoxes boxes = pumped(LONGER + "^d.0|d[0]", 11);
        check.due("too long", Check.answer(() -> boxes.take(0)), UOE);
        check.due("a shorter one", Check.answer(() -> boxes.take(1)), 1);
        check.due("twelve steps", boxes.count(4), 12);
        check.due("its length", boxes.keep(1), 28 + 11 * 17);
        check.due("there is room for one more now", Check.answer(() -> boxes.take(0)), 1);
        check.due("too long again", Check.answer(() -> boxes.fair(1)), UOE);
        check.due("read from the beginning", boxes.read(), 10);
        check.due("and take", boxes.take(0), 2);
    }

    private void textsByExploring() {
        check.about("Terms: TOO MUCH with more than 240 characters of its text (explore)");
        for (int signs = 0; signs <= 7; signs++) {
            String text = LONGER + padding(signs);
            MovingBoxes boxes = Check.of(text);
            int length = boxes.keep(0);
            int states = 1 + (240 - length) / 17;
            check.due("states of " + text, boxes.explore(30, 0, 0), states);
            check.due("all gone over", Check.explored(boxes), states + ",1,0,-1," + (states - 1));
        }
    }

    /** Each limit counts by itself. */
    private void placesAndMessagesAtOnce() {
        check.about("Terms: more than 20 places besides the root, 40 waiting guards, 30 messages, or 240 characters");
        MovingBoxes boxes = Check.of("!?x.('x|'x)|!?y.('y|a[0])|'b");
        for (int i = 0; i < 20; i++) {
            check.due("a place more", boxes.take(boxes.redexes() - 1), 2);
        }
        for (int i = 1; i < 30; i++) {
            check.due("a message more", boxes.take(0), 2 * (i + 1));
        }
        check.due("both at their limits", Check.counts(boxes), "20,2,30,101,49");
        check.due("with room in the text", boxes.keep(0), 215);
        for (int k = 0; k < 60; k++) {
            int taken = k;
            check.due("neither has more, by " + k, Check.answer(() -> boxes.take(taken)), UOE);
        }
        check.due("nothing was taken", Check.counts(boxes) + boxes.equal(0), "20,2,30,101,49true");
    }

    private void noStepAndNothingOlder() {
        check.about("Terms: What would make a state that is too much is not taken (that is no step, and nothing grows older)");
        MovingBoxes boxes = Check.of("?x.('x|'x)|^a.0|a[0]|" + Check.times(30, "'f"));
        check.due("an input with thirty messages, and an open", boxes.redexes(), 31);
        for (int k = 0; k < 30; k++) {
            int taken = k;
            check.due("refused", Check.answer(() -> boxes.take(taken)), UOE);
        }
        check.due("no step", Check.counts(boxes), "1,2,30,33,0");
        check.due("as young as before", boxes.redex(0, 3) + "," + boxes.redex(30, 3), "0,0");
        check.due("another one is taken", boxes.take(30), 30);
        check.due("older by that alone", boxes.redex(0, 3) + "," + boxes.redex(29, 3), "1,1");
        check.due("refused again", Check.answer(() -> boxes.take(29)), UOE);
        check.due("and by fair()", Check.answer(() -> boxes.fair(3)), UOE);
        check.due("no older", boxes.redex(0, 3) + "," + boxes.redex(29, 3) + "," + boxes.count(4), "1,1,1");
    }

    /** The state that is at the limit after so many fair steps. */
    private void fairUpTo(String text, int steps, int what, int limit) {
        MovingBoxes exact = Check.of(text);
        check.due("as many as fit: " + text, Check.answer(() -> exact.fair(steps)), steps);
        check.due("the limit", exact.count(what), limit);
        check.due("one more", Check.answer(() -> exact.fair(1)), UOE);
        check.due("none of it is done", exact.count(4), steps);
        for (int n = steps + 1; n <= 30; n++) {
            int many = n;
            MovingBoxes over = Check.of(text);
            check.due(n + " of " + text, Check.answer(() -> over.fair(many)), UOE);
            check.due("those before are done", Check.all(over), Check.all(exact));
        }
        twins.refused("one more", () -> {
            MovingBoxes full = Check.of(text);
            full.fair(steps);
            return full;
        }, boxes -> boxes.fair(30), UOE);
    }

    private void fairStepsUpToTheLimit() {
        check.about("Promise 8: UnsupportedOperationException, when the state would be too much by the next one (those before are done)");
        fairUpTo("!?x.('x|a[0])|'a", 20, 0, 20);
        fairUpTo("!?x.('x|>a.0|<a.0)|'a|>a.0", 19, 1, 40);
        fairUpTo("!?x.('x|'x)|'a", 29, 2, 30);
        fairUpTo("!?x.('x|'x)|'a|'a", 28, 2, 30);
        fairUpTo(LONGER + "0", 12, 1, 13);
        MovingBoxes atOnce = Check.of("!?x.('x|'x)|" + Check.times(30, "'a"));
        check.due("the very first one", Check.answer(() -> atOnce.fair(1)), UOE);
        check.due("no step", atOnce.count(4), 0);
    }

    private void fairTakesTheOldestOrNone() {
        check.about("Promise 8: UnsupportedOperationException, when the state would be too much by the next one");
        String text = "!?x.('x|'x)|^a.0|a[0]|" + Check.times(30, "'f");
        twins.refused("the oldest would be too much, a later one not", () -> Check.of(text), boxes -> boxes.fair(1), UOE);
        MovingBoxes boxes = Check.of(text);
        check.due("the later one can be taken", boxes.take(30), 30);
        MovingBoxes other = Check.of("^a.0|a[0]|!?x.('x|'x)|" + Check.times(30, "'f"));
        check.due("one, and then too much", Check.answer(() -> other.fair(2)), UOE);
        check.due("the one is done", Check.counts(other), "0,1,30,33,1");
    }

    private void exploringLeadsNowhere() {
        check.about("Terms: (Takes that would be too much lead nowhere.)");
        MovingBoxes full = Check.of("!?x.('x|'x)|" + Check.times(30, "'a"));
        check.due("none but the first", full.explore(30, 0, 0), 1);
        check.due("gone over, and not without a redex", Check.explored(full), "1,1,0,-1,0");
        MovingBoxes way = Check.of("!?x.('x|'x)|^a.b[c[0]]|a[0]|" + Check.times(30, "'a"));
        check.due("one way out", way.explore(30, 1, 2), 2);
        check.due("to a state with redexes", Check.explored(way), "2,1,0,1,1");
    }

    private void exploringUpToTheLimit() {
        check.about("Terms: EXPLORING: a state that is equal to none found before is found (up to the limits of a state)");
        for (int left = 0; left < 4; left++) {
            String due = (left + 1) + ",1,0,-1," + left;
            explores("!?x.('x|a[0])|'b|" + Check.times(20 - left, "a[0]"), 0, due);
            explores("!?x.('x|'x)|" + Check.times(30 - left, "'a"), 0, due);
            explores("!?x.('x|>a.0)|'a", 39 - left, due);
        }
    }

    private void explores(String text, int takes, String due) {
        MovingBoxes boxes = pumped(text, takes);
        boxes.explore(30, 0, 0);
        check.due("explored behind " + takes + " of " + text, Check.explored(boxes), due);
        check.due("the state stays", boxes.equal(0), true);
    }

    /** Twenty places, each in the next one, and the deepest tail in the innermost. */
    private void deepestNesting() {
        check.about("Terms: more than 20 places besides the root (each in the next one)");
        String tail = "<b.<b.<b.<b.<b.'b";
        MovingBoxes boxes = Check.of("!?x.('x|x[!>x.0])|'a|a[>a." + tail + "]");
        for (int i = 0; i < 19; i++) {
            check.due("a place", Check.answer(() -> boxes.take(0)) instanceof Integer, true);
        }
        check.due("twenty", boxes.count(0), 20);
        for (int left = 20; left > 1; left--) {
            check.due("one goes in", Check.answer(() -> boxes.take(1)) instanceof Integer, true);
        }
        String told = "a[" + tail + "]";
        for (int i = 0; i < 19; i++) {
            told = "a[!>a.0|" + told + "]";
        }
        check.due("deep", Check.text(boxes), "!?x.('x|x[!>x.0])|'a|" + told);
        check.due("one place more", Check.answer(() -> boxes.take(0)), UOE);
    }
}
