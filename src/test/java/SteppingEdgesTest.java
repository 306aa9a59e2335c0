/** What "Terms" says of redexes and steps, and the boundary cases of promises 5 to 8, sentence by sentence. */
public final class SteppingEdgesTest {
    private static final String IAE = "throws.IllegalArgumentException";
    private static final String IOOBE = "throws.IndexOutOfBoundsException";
    private static final String TURNS = "!?x.'x|'a|'b";

    private final Check check = new Check();
    private final Twins twins = new Twins(check);

    public static void main(String[] args) {
        SteppingEdgesTest test = new SteppingEdgesTest();
        test.inNeedsAPlace();
        test.outNeedsAPlaceInAPlace();
        test.openAndInputInTheRoot();
        test.onlyInTheSamePlace();
        test.outOfTheOutermost();
        test.openingWhatIsEmpty();
        test.replicasStay();
        test.numbersAreNeverUsedAgain();
        test.theOrder();
        test.youngest();
        test.ageAfterABreak();
        test.ageByBothNumbers();
        test.fairTakesTheOldest();
        test.fairTakesTheFirstOfSeveral();
        test.howManyRedexes();
        test.redexThatIsNotThere();
        test.redexOfAnotherWhat();
        test.takeWhatIsNotThere();
        test.takeTheFirstAndTheLast();
        test.fairFrom1To30();
        test.fairUntilThereIsNoRedex();
        test.theLastCall();
        test.check.end();
    }

    private void redexesOf(String text, String due) {
        MovingBoxes boxes = Check.of(text);
        check.due("redexes of " + text, Check.redexes(boxes), due);
        check.due("how many", boxes.redexes(), due.isEmpty() ? 0 : due.split(" ").length);
    }

    private void takes(String text, int k, String due) {
        MovingBoxes boxes = Check.of(text);
        Object many = Check.answer(() -> boxes.take(k));
        check.due("take " + k + " of " + text, Check.text(boxes), due);
        check.due("it tells how many there are then", many, boxes.redexes());
    }

    private void inNeedsAPlace() {
        check.about("Terms: IN n in a place q that is in a place (or the root) r, and another place m in r, with the name n");
        redexesOf("a[>b.0]|b[0]", "0,1,2,0");
        redexesOf("b[0]|a[>b.0]", "0,2,0,0");
        redexesOf("c[a[>b.0]|b[0]]", "0,2,3,0");
        redexesOf(">b.0|b[0]", "");
        redexesOf("b[>b.0]", "");
        redexesOf("b[>b.0]|b[0]", "0,1,2,0");
        redexesOf("a[>b.0]|b[0]|b[0]|c[0]|b[0]", "0,1,2,0 0,1,3,0 0,1,5,0");
    }

    private void outNeedsAPlaceInAPlace() {
        check.about("Terms: OUT n in a place q that is in a place m with the name n");
        redexesOf("b[a[<b.0]]", "1,2,0,0");
        redexesOf("<b.0|b[0]", "");
        redexesOf("b[<b.0]", "");
        redexesOf("b[c[a[<b.0]]]", "");
        redexesOf("c[b[a[<b.0]]]", "1,3,1,0");
        redexesOf("b[b[<b.0]]", "1,2,0,0");
    }

    private void openAndInputInTheRoot() {
        check.about("Terms: OPEN n in a place q (or the root), and a place m in q; INPUT in a place q (or the root), and a message in q");
        redexesOf("^a.0|a[0]", "2,0,1,0");
        redexesOf("b[^a.0|a[0]]", "2,1,2,0");
        redexesOf("a[^a.0]", "");
        redexesOf("a[^a.0|a[0]]", "2,1,2,0");
        redexesOf("?x.0|'a", "3,0,1,0");
        redexesOf("b[?x.0|'a]", "3,1,2,0");
    }

    private void onlyInTheSamePlace() {
        check.about("Terms: REDEXES (what is one place further in or out is none)");
        redexesOf("a[>b.0|b[0]]", "");
        redexesOf("a[>b.0]|c[b[0]]", "");
        redexesOf("c[a[>b.0]]|b[0]", "");
        redexesOf("^a.0|b[a[0]]", "");
        redexesOf("b[^a.0]|a[0]", "");
        redexesOf("?x.0|a['f]", "");
        redexesOf("a[?x.0]|'f", "");
        redexesOf("a[>b.0]|>c.b[0]", "");
    }

    private void outOfTheOutermost() {
        check.about("Terms: OUT: q is in what m is in");
        takes("b[a[<b.'c]]", 0, "a['c]|b[0]");
        takes("c[b[a[<b.'c]]]", 0, "c[a['c]|b[0]]");
        MovingBoxes boxes = Check.of("b[>c.0|a[<b.0]]|c[0]");
        boxes.take(0);
        boxes.take(0);
        check.due("what was in the root before", Check.text(boxes), "c[a[0]|b[0]]");
    }

    private void openingWhatIsEmpty() {
        check.about("Terms: OPEN: all that is in m is in q, and m is gone");
        takes("^a.0|a[0]", 0, "0");
        takes("^a.0|a[a[b[0]]|'c|!>d.0]", 0, "!>d.0|'c|a[b[0]]");
    }

    private void replicasStay() {
        check.about("Terms: the guard is gone, if it is no replica");
        takes("a[>b.0]|b[0]", 0, "b[a[0]]");
        takes("a[!>b.0]|b[0]", 0, "b[a[!>b.0]]");
        takes("b[a[<b.0]]", 0, "a[0]|b[0]");
        takes("b[a[!<b.0]]", 0, "a[!<b.0]|b[0]");
        takes("!^a.0|a[0]", 0, "!^a.0");
        takes("?x.0|'a", 0, "0");
        takes("!?x.0|'a", 0, "!?x.0");
    }

    private void numbersAreNeverUsedAgain() {
        check.about("Terms: What is made gets a NUMBER, 0, 1, .. (one row for all; the root has none; never used again)");
        MovingBoxes boxes = Check.of(TURNS);
        check.due("the first ones", boxes.count(3), 3);
        for (int step = 1; step <= 20; step++) {
            boxes.take(0);
            check.due("the next one", boxes.count(3), 3 + step);
            check.due("the latest one", boxes.redex(1, 2), 2 + step);
        }
        check.due("what is in the state is not more", Check.text(boxes), "!?x.'x|'a|'b");
    }

    private void theOrder() {
        check.about("Terms: in the order of their guards' numbers, of one guard in the order of the others' numbers");
        redexesOf("'a|?x.0|'b|!?y.0", "3,1,0,0 3,1,2,0 3,3,0,0 3,3,2,0");
        redexesOf("b[0]|a[^c.0|c[<a.0]|>b.0]|b[0]", "2,2,3,0 1,4,1,0 0,5,0,0 0,5,6,0");
        MovingBoxes boxes = Check.of("c[^a.0|a['d|?x.0]|'e]|?y.0|'f");
        boxes.take(0);
        check.due("what was moved keeps its turn", Check.redexes(boxes), "3,4,3,1 3,4,5,0 3,6,7,1");
    }

    private void youngest() {
        check.about("Terms: (0, when it came by the latest step or reading)");
        MovingBoxes boxes = Check.of("?x.'x|'a|^b.0|b[c[0]]|?y.0");
        check.due("by reading", Check.redexes(boxes), "3,0,1,0 2,2,3,0 3,5,1,0");
        boxes.take(1);
        check.due("there for a step", Check.redexes(boxes), "3,0,1,1 3,5,1,1");
        boxes.take(0);
        check.due("by a step", Check.redexes(boxes), "3,5,6,0");
    }

    private void ageAfterABreak() {
        check.about("Terms: A redex is OLD by as many steps as it has been there without a break");
        MovingBoxes boxes = Check.of("a[0]|d[!>a.0|!<a.0]|^c.0|c[0]");
        for (int turn = 0; turn < 5; turn++) {
            check.due("in", Check.redexes(boxes), "0,2,0,0 2,4,5," + 2 * turn);
            boxes.take(0);
            check.due("out", Check.redexes(boxes), "1,3,0,0 2,4,5," + (2 * turn + 1));
            boxes.take(0);
        }
        check.due("a break of one step is a break", Check.redexes(boxes), "0,2,0,0 2,4,5,10");
        MovingBoxes fewer = Check.of("b[!>d.0|!<d.0]|d[0]|c[>b.0]|?x.0|'a");
        check.due("three", Check.redexes(fewer), "0,1,3,0 0,5,0,0 3,6,7,0");
        fewer.take(2);
        check.due("two", Check.redexes(fewer), "0,1,3,1 0,5,0,1");
        fewer.take(0);
        check.due("one", Check.redexes(fewer), "1,2,3,0");
        fewer.take(0);
        check.due("two again, after a break", Check.redexes(fewer), "0,1,3,0 0,5,0,0");
    }

    private void ageByBothNumbers() {
        check.about("Terms: (told by both numbers)");
        MovingBoxes guard = Check.of("!?x.'x|'a|'b");
        guard.take(0);
        check.due("the guard with another message", Check.redexes(guard), "3,0,2,1 3,0,3,0");
        MovingBoxes other = Check.of("?x.?y.0|'a|?z.0|'b");
        check.due("at first", Check.redexes(other), "3,0,1,0 3,0,3,0 3,2,1,0 3,2,3,0");
        other.take(0);
        check.due("the message with another guard", Check.redexes(other), "3,2,3,1 3,4,3,0");
        MovingBoxes moved = Check.of("b[?x.0|'c]|^b.0");
        moved.take(1);
        check.due("in another place, but the same two", Check.redexes(moved), "3,1,2,1");
    }

    private void fairTakesTheOldest() {
        check.about("Terms: A FAIR step takes the oldest redex");
        MovingBoxes boxes = Check.of("?x.0|^a.0|a['b]|^c.0|c[0]");
        check.due("the first step", boxes.fair(1), 1);
        check.due("an older one behind a new one", Check.redexes(boxes), "3,0,3,0 2,4,5,1");
        check.due("the second step", boxes.fair(1), 1);
        check.due("the older one is gone", Check.redexes(boxes), "3,0,3,1");
    }

    private void fairTakesTheFirstOfSeveral() {
        check.about("Terms: of several the first in the order");
        MovingBoxes boxes = Check.of("?x.0|?y.>a.0|'a|'b");
        boxes.fair(1);
        check.due("the first guard with the first message", Check.text(boxes), "'b|?y.>a.0");
        MovingBoxes older = Check.of("^d.0|d['e]|?x.0|?y.'f|'a|'b");
        older.take(0);
        check.due("four that are old, two that are not", Check.redexes(older),
            "3,3,2,0 3,3,5,1 3,3,6,1 3,4,2,0 3,4,5,1 3,4,6,1");
        older.fair(1);
        check.due("the first one of the old ones", Check.redexes(older), "3,4,2,1 3,4,6,2");
    }

    private void howManyRedexes() {
        check.about("Promise 5: How many redexes there are");
        check.due("of a new object", new MovingBoxes().redexes(), 0);
        check.due("of none", Check.of("a[0]|>a.0|'b").redexes(), 0);
        MovingBoxes boxes = Check.of("?x.0|'a");
        check.due("one", boxes.redexes(), 1);
        check.due("taken", boxes.take(0), 0);
        check.due("none", boxes.redexes(), 0);
        MovingBoxes many = Check.of("!?x.('x|'x|?y.0)|'a");
        for (int i = 0; i < 27; i++) {
            many.take(0);
        }
        check.due("as many as fit the text", many.redexes(), 784);
        check.due("the last one", Check.answer(() -> many.redex(783, 0)), 3);
        check.due("none behind it", Check.answer(() -> many.redex(784, 0)), IOOBE);
    }

    private static MovingBoxes withTwo() {
        MovingBoxes boxes = Check.of(TURNS);
        boxes.fair(3);
        boxes.keep(1);
        boxes.explore(5, 0, 1);
        return boxes;
    }

    private void redexThatIsNotThere() {
        check.about("Promise 6: IndexOutOfBoundsException, when there is none");
        for (int what = 0; what < 4; what++) {
            int asked = what;
            check.due("the first", Check.answer(() -> withTwo().redex(0, asked)) instanceof Integer, true);
            check.due("the last", Check.answer(() -> withTwo().redex(1, asked)) instanceof Integer, true);
            for (int k : new int[] {-1, 2, 3, 1199, 1200, 1201, Integer.MIN_VALUE, Integer.MAX_VALUE}) {
                twins.refused("redex(" + k + ", " + what + ")", SteppingEdgesTest::withTwo, b -> b.redex(k, asked), IOOBE);
            }
            twins.refused("of none", MovingBoxes::new, boxes -> boxes.redex(0, asked), IOOBE);
        }
    }

    private void redexOfAnotherWhat() {
        check.about("Promise 6: IndexOutOfBoundsException, for another what");
        for (int k = 0; k < 2; k++) {
            int asked = k;
            for (int what : new int[] {-1, 4, 5, 256, Integer.MIN_VALUE, Integer.MAX_VALUE}) {
                twins.refused("redex(" + k + ", " + what + ")", SteppingEdgesTest::withTwo, b -> b.redex(asked, what), IOOBE);
            }
        }
        twins.refused("both wrong", SteppingEdgesTest::withTwo, boxes -> boxes.redex(2, 4), IOOBE);
        check.due("0 to 3 of the last", Check.redexes(withTwo()), "3,0,4,1 3,0,5,0");
    }

    private void takeWhatIsNotThere() {
        check.about("Promise 7: IndexOutOfBoundsException, when there is none");
        for (int k : new int[] {-1, 2, 3, 1199, 1200, 1201, Integer.MIN_VALUE, Integer.MAX_VALUE}) {
            twins.refused("take(" + k + ")", SteppingEdgesTest::withTwo, boxes -> boxes.take(k), IOOBE);
        }
        for (int k : new int[] {-1, 0, 1}) {
            twins.refused("take(" + k + ") of none", MovingBoxes::new, boxes -> boxes.take(k), IOOBE);
        }
        MovingBoxes boxes = Check.of("?x.0|'f");
        check.due("the only one", boxes.take(0), 0);
        check.due("once more", Check.answer(() -> boxes.take(0)), IOOBE);
        check.due("one step", boxes.count(4), 1);
    }

    private void takeTheFirstAndTheLast() {
        check.about("Promise 7: Takes the k-th redex: how many there are then");
        takes("?x.0|'a|'b|'c", 0, "'b|'c");
        takes("?x.0|'a|'b|'c", 1, "'a|'c");
        takes("?x.0|'a|'b|'c", 2, "'a|'b");
        check.due("more than before", Check.of("?x.('x|'x|?y.0|?z.0)|'a").take(0), 4);
    }

    private void fairFrom1To30() {
        check.about("Promise 8: Up to n (1 .. 30) fair steps; IllegalArgumentException, when n is not so");
        for (int n = 1; n <= 30; n++) {
            MovingBoxes boxes = Check.of(TURNS);
            check.due("fair(" + n + ")", boxes.fair(n), n);
            check.due("steps", boxes.count(4), n);
        }
        for (int n : new int[] {0, 31, -1, -30, 32, 257, Integer.MIN_VALUE, Integer.MIN_VALUE + 1, Integer.MAX_VALUE}) {
            twins.refused("fair(" + n + ")", SteppingEdgesTest::withTwo, boxes -> boxes.fair(n), IAE);
            twins.refused("fair(" + n + ") without a redex", MovingBoxes::new, boxes -> boxes.fair(n), IAE);
        }
    }

    private void fairUntilThereIsNoRedex() {
        check.about("Promise 8: until there is no redex: how many");
        for (int messages = 0; messages <= 30; messages++) {
            String text = "!?x.0" + "|'a".repeat(messages);
            for (int n : new int[] {1, Math.max(1, messages - 1), Math.max(1, messages), Math.min(30, messages + 1), 30}) {
                MovingBoxes boxes = Check.of(text);
                check.due("fair(" + n + ") with " + messages, boxes.fair(n), Math.min(n, messages));
                check.due("left", boxes.redexes(), messages - Math.min(n, messages));
            }
        }
        MovingBoxes none = Check.of("'a");
        check.due("none", none.fair(30), 0);
        check.due("no step", none.count(4), 0);
    }

    private void theLastCall() {
        check.about("An object is used for at most 512 calls after it has been made");
        MovingBoxes boxes = new MovingBoxes();
        boxes.write(Check.eight("!?x.'x|'"), 8);
        boxes.write(Check.eight("a|'b|^c."), 8);
        boxes.write(Check.eight("0"), 1);
        boxes.read();
        for (int call = 5; call < 510; call++) {
            check.due("call " + call, boxes.fair(30), 30);
        }
        check.due("call 510", boxes.count(4), 505 * 30);
        check.due("call 511", boxes.count(3), 4 + 505 * 30);
        check.due("call 512", boxes.redex(0, 2), 4 + 505 * 30 - 2);
    }
}
