import java.util.Collections;

/** Promises 5 to 8: redexes, redex, take, fair. */
public final class SteppingTest {
    private static final String IAE = "throws.IllegalArgumentException";
    private static final String IOOBE = "throws.IndexOutOfBoundsException";
    private static final String UOE = "throws.UnsupportedOperationException";

    private final Check check = new Check();

    public static void main(String[] args) {
        SteppingTest test = new SteppingTest();
        test.whatIsARedex();
        test.order();
        test.wrongRedexes();
        test.takingIn();
        test.takingOut();
        test.takingOpen();
        test.takingInput();
        test.meanings();
        test.numbersOfWhatIsMade();
        test.ages();
        test.wrongTaking();
        test.fairness();
        test.wrongFairness();
        test.limits();
        test.limitOfTheText();
        test.roomThatIsMadeFirst();
        test.deepNesting();
        test.check.end();
    }

    private void redexesOf(String text, String due) {
        MovingBoxes boxes = Check.of(text);
        check.due("redexes of " + text, Check.redexes(boxes), due);
        check.due("how many", boxes.redexes(), due.isEmpty() ? 0 : due.split(" ").length);
    }

    /** The text after taking one redex. */
    private void taken(String text, int k, String due) {
        MovingBoxes boxes = Check.of(text);
        Object many = Check.answer(() -> boxes.take(k));
        check.due("take " + k + " of " + text, Check.text(boxes), due);
        check.due("it tells how many there are then", many, boxes.redexes());
    }

    private void whatIsARedex() {
        redexesOf("0", "");
        redexesOf("a[>b.0]|b[0]", "0,1,2,0");
        redexesOf("c[a[>b.0]|b[0]]", "0,2,3,0");
        redexesOf(">b.0|b[0]", "");
        redexesOf("a[>a.0]", "");
        redexesOf("a[>a.0]|a[>a.0]", "0,1,2,0 0,3,0,0");
        redexesOf("a[>b.0|b[0]]", "");
        redexesOf("a[>b.0]|c[b[0]]", "");
        redexesOf("b[a[<b.0]]", "1,2,0,0");
        redexesOf("<b.0|b[0]", "");
        redexesOf("b[<b.0]", "");
        redexesOf("b[c[a[<b.0]]]", "");
        redexesOf("a[<b.0]|b[0]", "");
        redexesOf("^a.0|a[0]|a[0]", "2,0,1,0 2,0,2,0");
        redexesOf("b[^a.0|a[0]]", "2,1,2,0");
        redexesOf("^a.0|b[a[0]]", "");
        redexesOf("b[^a.0]|a[0]", "");
        redexesOf("a[^a.0]", "");
        redexesOf("?x.0|'f", "3,0,1,0");
        redexesOf("a[?x.0|'f]|'e", "3,1,2,0");
        redexesOf("?x.0|a['f]", "");
        redexesOf("a[?x.0]|'f", "");
        redexesOf("a[!>b.0]|b[!^c.0|c[0]]", "0,1,2,0 2,3,4,0");
    }

    private void order() {
        redexesOf("'a|?x.0|'b|!?y.0", "3,1,0,0 3,1,2,0 3,3,0,0 3,3,2,0");
        redexesOf("b[0]|a[^c.0|c[<a.0]|>b.0]|b[0]", "2,2,3,0 1,4,1,0 0,5,0,0 0,5,6,0");
    }

    private void wrongRedexes() {
        MovingBoxes boxes = Check.of("?x.0|'f");
        for (int k : new int[] {-1, 1, 2, 1200, Integer.MIN_VALUE, Integer.MAX_VALUE}) {
            check.due("redex " + k, Check.answer(() -> boxes.redex(k, 0)), IOOBE);
        }
        for (int what : new int[] {-1, 4, Integer.MIN_VALUE, Integer.MAX_VALUE}) {
            check.due("what " + what, Check.answer(() -> boxes.redex(0, what)), IOOBE);
        }
        check.due("none", Check.answer(() -> new MovingBoxes().redex(0, 0)), IOOBE);
    }

    private void takingIn() {
        taken("a[>b.'c|'d]|b[e[0]]", 0, "b[a['c|'d]|e[0]]");
        taken("f[a[>b.0]|b[0]|c[0]]", 0, "f[b[a[0]]|c[0]]");
        taken("a[!>b.'c]|b[0]", 0, "b[a[!>b.'c|'c]]");
        taken("a[>b.0]|b['c]|b['d]", 1, "b['c]|b['d|a[0]]");
        taken("a[>b.<b.0]|b[0]", 0, "b[a[<b.0]]");
    }

    private void takingOut() {
        taken("b['c|a[<b.'d]]", 0, "a['d]|b['c]");
        taken("f[b[a[<b.e[0]|'c]]]", 0, "f[a['c|e[0]]|b[0]]");
        taken("b[a[!<b.'d]]", 0, "a[!<b.'d|'d]|b[0]");
    }

    private void takingOpen() {
        taken("^a.'b|a['c|d[0]|>e.0]", 0, "'b|'c|>e.0|d[0]");
        taken("f[^a.0|a[a[0]]]|a[0]", 0, "a[0]|f[a[0]]");
        taken("!^a.'b|a[a[0]]", 0, "!^a.'b|'b|a[0]");
        taken("^a.0|a[0]", 0, "0");
    }

    private void takingInput() {
        taken("?x.('x|x[>x.0])|'e", 0, "'e|e[>e.0]");
        taken("!?x.x[0]|'e|'f", 1, "!?x.x[0]|'e|f[0]");
        taken("a[?z.^z.0|'c]", 0, "a[^c.0]");
        taken("?x.0|'e", 0, "0");
    }

    /** A letter means what its innermost INPUT says, and nothing before that was taken. */
    private void meanings() {
        taken("?x.?x.'x|'a", 0, "?x.'x");
        taken("?x.?y.('x|'y)|'a", 0, "?y.('a|'y)");
        MovingBoxes boxes = Check.of("?x.(?x.x['x]|'x|!>x.?y.(y[0]|'x))|'c|'d");
        boxes.take(0);
        check.due("x is c, but not behind ?x", Check.text(boxes), "!>c.?y.('c|y[0])|'c|'d|?x.x['x]");
        boxes.take(0);
        check.due("the inner x is d", Check.text(boxes), "!>c.?y.('c|y[0])|'c|d['d]");
        MovingBoxes replica = Check.of("!?x.?y.x[y[0]]|'a|'b");
        check.due("two takes", replica.fair(30), 2);
        check.due("each guard has meanings of its own", Check.text(replica), "!?x.?y.x[y[0]]|?y.a[y[0]]|?y.b[y[0]]");
    }

    private void numbersOfWhatIsMade() {
        MovingBoxes boxes = Check.of("?x.(a[^b.0|b[0]]|0|(^a.0|'c))|'f");
        check.due("the next one", boxes.count(3), 2);
        check.due("redexes then", boxes.take(0), 2);
        check.due("in [ ] before what follows", Check.redexes(boxes), "2,3,4,0 2,5,2,0");
        check.due("the next one then", boxes.count(3), 7);
        boxes.take(1);
        check.due("numbers stay", Check.redexes(boxes), "2,3,4,1");
        boxes.take(0);
        check.due("and are not used again", Check.counts(boxes), "0,0,1,7,3");
    }

    private void ages() {
        MovingBoxes boxes = Check.of("b[?x.0|'c]|^b.0|?y.0|'d");
        check.due("at first", Check.redexes(boxes), "3,1,2,0 2,3,0,0 3,4,5,0");
        boxes.take(1);
        check.due("with both numbers the same it stays", Check.redexes(boxes), "3,1,2,1 3,1,5,0 3,4,2,0 3,4,5,1");
        boxes.explore(30, 0, 0);
        check.due("exploring makes nothing older", Check.redexes(boxes), "3,1,2,1 3,1,5,0 3,4,2,0 3,4,5,1");
        boxes.take(0);
        check.due("one is left", Check.redexes(boxes), "3,4,5,2");
        MovingBoxes inAndOut = Check.of("a[0]|d[!>a.0|!<a.0]|^c.0|c[0]");
        check.due("in", Check.redexes(inAndOut), "0,2,0,0 2,4,5,0");
        inAndOut.take(0);
        check.due("out", Check.redexes(inAndOut), "1,3,0,0 2,4,5,1");
        inAndOut.take(0);
        check.due("in once more, after a break", Check.redexes(inAndOut), "0,2,0,0 2,4,5,2");
        inAndOut.read();
        check.due("all new by reading", Check.redexes(inAndOut), "0,2,0,0 2,4,5,0");
    }

    private void wrongTaking() {
        MovingBoxes boxes = Check.of("?x.0|'f");
        boxes.explore(1, 0, 0);
        String before = Check.all(boxes);
        for (int k : new int[] {-1, 1, 2, 1200, Integer.MIN_VALUE, Integer.MAX_VALUE}) {
            check.due("take " + k, Check.answer(() -> boxes.take(k)), IOOBE);
        }
        check.due("nothing has changed", Check.all(boxes), before);
        check.due("none is left", boxes.take(0), 0);
        check.due("take 0 of none", Check.answer(() -> boxes.take(0)), IOOBE);
    }

    private void fairness() {
        MovingBoxes boxes = Check.of("?x.0|^a.0|a['b]|^c.0|c[0]");
        check.due("at first", Check.redexes(boxes), "2,1,2,0 2,4,5,0");
        check.due("the first of those as old", boxes.fair(1), 1);
        check.due("a new one comes before the old one", Check.redexes(boxes), "3,0,3,0 2,4,5,1");
        check.due("the oldest", boxes.fair(1), 1);
        check.due("the new one is left", Check.redexes(boxes), "3,0,3,1");
        check.due("no more than there are", boxes.fair(30), 1);
        check.due("none at all", boxes.fair(1), 0);
        check.due("steps", boxes.count(4), 3);
        MovingBoxes turns = Check.of("!?x.'x|'a|'b");
        check.due("thirty", turns.fair(30), 30);
        check.due("by turns", Check.redexes(turns), "3,0,31,1 3,0,32,0");
        check.due("two more", turns.fair(2), 2);
        check.due("steps", turns.count(4), 32);
    }

    private void wrongFairness() {
        MovingBoxes boxes = Check.of("!?x.'x|'a|'b");
        String before = Check.all(boxes);
        for (int n : new int[] {0, -1, 31, Integer.MIN_VALUE, Integer.MAX_VALUE}) {
            check.due("fair " + n, Check.answer(() -> boxes.fair(n)), IAE);
        }
        check.due("nothing has changed", Check.all(boxes), before);
    }

    /** Fair steps up to a state that has as much as is allowed, and not further. */
    private void fillsUp(String text, int steps, String counts) {
        MovingBoxes boxes = Check.of(text);
        for (int left = steps; left > 0; left -= Math.min(30, left)) {
            int n = Math.min(30, left);
            check.due("steps of " + text, Check.answer(() -> boxes.fair(n)), n);
        }
        boxes.explore(30, 0, 0);
        String before = Check.all(boxes);
        check.due("full: " + text, Check.counts(boxes), counts);
        check.due("one fair step more", Check.answer(() -> boxes.fair(1)), UOE);
        check.due("thirty more", Check.answer(() -> boxes.fair(30)), UOE);
        for (int k = 0; k < boxes.redexes(); k++) {
            int taken = k;
            check.due("taking one", Check.answer(() -> boxes.take(taken)), UOE);
        }
        check.due("nothing has changed, or grown older", Check.all(boxes), before);
        boxes.read();
        check.due("again", Check.answer(() -> boxes.fair(30)), steps < 30 ? UOE : 30);
        check.due("those before are done", boxes.count(4), Math.min(steps, 30));
    }

    private void limits() {
        fillsUp("!?x.('x|'x)|'a", 29, "0,1,30,60,29");
        fillsUp("!?x.('x|a[0])|'a", 20, "20,1,1,42,20");
        fillsUp("!?x.('x|>a.0)|'a", 39, "0,40,1,80,39");
    }

    private void limitOfTheText() {
        fillsUp("!?x.('x|>a.>b.>c.>d.>e.0)|'a|>a.>b.0", 12, "0,14,1,27,12");
        fillsUp("!?x.('x|>a.>b.>c.>d.>e.0)|'a|!>a.>b.0", 11, "0,13,1,25,11");
        MovingBoxes boxes = Check.of("!?x.('x|>a.>b.>c.>d.>e.0)|'a|>a.>b.0");
        boxes.fair(12);
        check.due("240 characters", Check.text(boxes).length(), 240);
        check.due("are kept", boxes.keep(0), 240);
        check.due("and equal", boxes.equal(0), true);
    }

    /** What is gone is gone before the tail is run. */
    private void roomThatIsMadeFirst() {
        taken("^a.b[0]|" + String.join("|", Collections.nCopies(20, "a[0]")), 7,
            String.join("|", Collections.nCopies(19, "a[0]")) + "|b[0]");
        taken("?x.'b|" + String.join("|", Collections.nCopies(30, "'a")), 29,
            String.join("|", Collections.nCopies(29, "'a")) + "|'b");
        MovingBoxes boxes = Check.of("!?x.('x|>a.0)|'a|?y.>b.0");
        for (int i = 0; i < 38; i++) {
            check.due("the replica", Check.answer(() -> boxes.take(0)), 2);
        }
        check.due("as many guards as may be", boxes.count(1), 40);
        check.due("one more", Check.answer(() -> boxes.take(0)), UOE);
        check.due("one for another", Check.answer(() -> boxes.take(1)), 0);
        check.due("as many", boxes.count(1), 40);
    }

    /** Twenty places, each in the next one. */
    private void deepNesting() {
        MovingBoxes boxes = Check.of("!?x.('x|x[!>x.0])|'a");
        check.due("the first", boxes.fair(1), 1);
        for (int i = 1; i < 20; i++) {
            check.due("another one", Check.answer(() -> boxes.take(0)), 1 + i * (i + 1));
        }
        check.due("all", Check.counts(boxes), "20,21,1,62,20");
        for (int places = 20; places > 1; places--) {
            // The first place that has another one beside it goes into the next one.
            check.due("one goes in", Check.answer(() -> boxes.take(1)), 1 + (places - 1) * (places - 2));
        }
        String inner = "a[!>a.0]";
        for (int i = 1; i < 20; i++) {
            inner = "a[!>a.0|" + inner + "]";
        }
        check.due("deep", Check.text(boxes), "!?x.('x|x[!>x.0])|'a|" + inner);
        check.due("a in a", boxes.shows(0, 0), true);
    }
}
