/** Promises 9 to 13: count, letter, keep, equal, shows. */
public final class TellingTest {
    private static final String IAE = "throws.IllegalArgumentException";
    private static final String IOOBE = "throws.IndexOutOfBoundsException";
    private static final String NSEE = "throws.NoSuchElementException";

    private final Check check = new Check();

    public static void main(String[] args) {
        TellingTest test = new TellingTest();
        test.counts();
        test.textsOfStates();
        test.textsOfTails();
        test.letters();
        test.keeping();
        test.wrongSlots();
        test.shapes();
        test.wrongShapes();
        test.check.end();
    }

    private void counts() {
        MovingBoxes boxes = Check.of("a[b['c|'d]|>e.(f[0]|'f|<f.0)]|!?x.'x|0");
        check.due("counts", Check.counts(boxes), "2,2,2,6,0");
        for (int what : new int[] {-1, 5, Integer.MIN_VALUE, Integer.MAX_VALUE}) {
            check.due("count " + what, Check.answer(() -> boxes.count(what)), IOOBE);
        }
        MovingBoxes steps = Check.of("^a.(b[0]|'c)|a[0]");
        steps.take(0);
        check.due("after a step", Check.counts(steps), "1,0,1,4,1");
    }

    private void told(String text, String due) {
        check.due("the text of " + text, Check.text(Check.of(text)), due);
    }

    private void textsOfStates() {
        told("0|(0)", "0");
        told("a[0|0]", "a[0]");
        told("b[0]|a[0]|'b|'a", "'a|'b|a[0]|b[0]");
        told("?x.0|^a.0|>a.0|<a.0|!>a.0|a[0]|'a", "!>a.0|'a|<a.0|>a.0|?x.0|^a.0|a[0]");
        told("a[b['c]|'b]|a[0]|a['b|a[0]]", "a['b|a[0]]|a['b|b['c]]|a[0]");
        told(">a.>b.0|>a.0|>a.'b", ">a.'b|>a.0|>a.>b.0");
        told("a['a|'a]|a['a]", "a['a]|a['a|'a]");
        told("'a|'a", "'a|'a");
    }

    private void textsOfTails() {
        told(">a.0", ">a.0");
        told(">a.(0)", ">a.0");
        told(">a.((0|(0))|0)", ">a.0");
        told(">a.('b)", ">a.'b");
        told(">a.(('b)|0)", ">a.'b");
        told(">a.('c|('b|(0|'a)))", ">a.('a|'b|'c)");
        told(">a.b[0]", ">a.b[0]");
        told(">a.b[((0))]", ">a.b[0]");
        told(">a.b[('d|'c)|0|e[0]]", ">a.b['c|'d|e[0]]");
        told(">a.(<b.(^c.('f|'e)|0)|'d)", ">a.('d|<b.^c.('e|'f))");
        told("!?z.(z[0]|?y.(z['y]|'z))", "!?z.(?y.('z|z['y])|z[0])");
        MovingBoxes boxes = Check.of("?x.>d.('x|'c|x[0]|b[0])|'a");
        check.due("sorted by letters", Check.text(boxes), "'a|?x.>d.('c|'x|b[0]|x[0])");
        boxes.take(0);
        check.due("sorted by what they mean", Check.text(boxes), ">d.('a|'c|a[0]|b[0])");
    }

    private void letters() {
        MovingBoxes boxes = Check.of("'a|b[0]");
        check.due("letter 0", boxes.letter(0), (int) '\'');
        check.due("letter 6", boxes.letter(6), (int) ']');
        for (int i : new int[] {7, 8, 239, 240, 1000, Integer.MAX_VALUE}) {
            check.due("letter " + i, Check.answer(() -> boxes.letter(i)), -1);
        }
        for (int i : new int[] {-1, Integer.MIN_VALUE}) {
            check.due("letter " + i, Check.answer(() -> boxes.letter(i)), IOOBE);
        }
    }

    private void keeping() {
        MovingBoxes boxes = Check.of("^a.'b|a['c]");
        check.due("keep 0", boxes.keep(0), 11);
        check.due("equal 0", boxes.equal(0), true);
        check.due("equal 1", Check.answer(() -> boxes.equal(1)), NSEE);
        check.due("equal 2", Check.answer(() -> boxes.equal(2)), NSEE);
        boxes.take(0);
        check.due("another one", boxes.equal(0), false);
        check.due("keep 2", boxes.keep(2), 5);
        check.due("equal 2", boxes.equal(2), true);
        Check.read(boxes, "a[(('c))]|0|^a.('b)");
        check.due("equal by texts", boxes.equal(0), true);
        check.due("not equal", boxes.equal(2), false);
        Check.read(boxes, "'c|'b");
        check.due("equal 2 again", boxes.equal(2), true);
        check.due("keep over it", boxes.keep(0), 5);
        check.due("equal 0 now", boxes.equal(0), true);
        Check.read(boxes, "'c|'d");
        check.due("as long, but another", boxes.equal(0), false);
        Check.read(boxes, "'b");
        check.due("the beginning of it", boxes.equal(0), false);
        Check.read(boxes, "?x.'x");
        boxes.keep(1);
        Check.read(boxes, "?y.'y");
        check.due("letters count as they are", boxes.equal(1), false);
        check.due("a root alone", new MovingBoxes().keep(2), 1);
    }

    private void wrongSlots() {
        MovingBoxes boxes = Check.of("'a");
        String before = Check.all(boxes);
        for (int slot : new int[] {-1, 3, Integer.MIN_VALUE, Integer.MAX_VALUE}) {
            check.due("keep " + slot, Check.answer(() -> boxes.keep(slot)), IOOBE);
            check.due("equal " + slot, Check.answer(() -> boxes.equal(slot)), IOOBE);
        }
        check.due("nothing has changed", Check.all(boxes), before);
    }

    private void shapes() {
        MovingBoxes boxes = Check.of("a[b[c[0]|'d]|'e]|f[0]|>a.a[f[0]]");
        String shown = "";
        for (int outer = 0; outer < 6; outer++) {
            for (int inner = 0; inner < 6; inner++) {
                shown += boxes.shows(outer, inner) ? outer + "" + inner + " " : "";
            }
        }
        check.due("what it shows", shown, "01 12 ");
        check.due("a in a", Check.of("a[b[0]|a[0]]").shows(0, 0), true);
        check.due("a beside a", Check.of("a[0]|a[0]").shows(0, 0), false);
        check.due("a alone", Check.of("a[0]").shows(0, 0), false);
        check.due("the second a", Check.of("a[0]|c[b[0]]|a[b[0]]").shows(0, 1), true);
        MovingBoxes steps = Check.of("e[>f.0]|f[0]");
        check.due("not yet", steps.shows(5, 4), false);
        steps.take(0);
        check.due("now", steps.shows(5, 4), true);
        check.due("not the other way", steps.shows(4, 5), false);
    }

    private void wrongShapes() {
        MovingBoxes boxes = Check.of("a[b[0]]");
        for (int name : new int[] {-1, 6, 'a', Integer.MIN_VALUE, Integer.MAX_VALUE}) {
            check.due("outer " + name, Check.answer(() -> boxes.shows(name, 1)), IAE);
            check.due("inner " + name, Check.answer(() -> boxes.shows(0, name)), IAE);
        }
    }
}
