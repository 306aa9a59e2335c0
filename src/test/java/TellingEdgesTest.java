/** What "Terms" says of texts and shapes, and the boundary cases of promises 9 to 13, sentence by sentence. */
public final class TellingEdgesTest {
    private static final String IAE = "throws.IllegalArgumentException";
    private static final String IOOBE = "throws.IndexOutOfBoundsException";
    private static final String NSEE = "throws.NoSuchElementException";
    /** After eleven takes a text of 240 characters; the name that may be put in for N is its last one. */
    private static final String LONGEST = "!?x.('x|>f.>f.>f.>f.>f.0)|'a|!>f.!>f.>f.>f.>f.0|^f.'N";
    private static final int[] FAR = {Integer.MIN_VALUE, Integer.MIN_VALUE + 1, -256, 256, 65536, Integer.MAX_VALUE};

    private final Check check = new Check();
    private final Twins twins = new Twins(check);

    public static void main(String[] args) {
        TellingEdgesTest test = new TellingEdgesTest();
        test.nothingInAPlace();
        test.sortedByCodes();
        test.sortedAsRows();
        test.tailsOfNoneOneAndSeveral();
        test.placesInTails();
        test.lettersThatMeanSomething();
        test.countFrom0To4();
        test.countsAtTheirLimits();
        test.lettersOfTheText();
        test.lettersOfTheLongestText();
        test.lettersBelow0();
        test.slotsToKeepIn();
        test.keepingAgain();
        test.lengthsThatAreKept();
        test.slotsToCompare();
        test.nothingWasKept();
        test.textsThatDifferInTheLast();
        test.textsThatDifferElsewhere();
        test.textsThatBeginAlike();
        test.namesToShow();
        test.notDeeper();
        test.check.end();
    }

    private void told(String text, String due) {
        check.due("the text of " + text, Check.text(Check.of(text)), due);
    }

    private void nothingInAPlace() {
        check.about("Terms: 0 when there is nothing");
        told("0", "0");
        told("(0|(0))|0", "0");
        told("a[0]", "a[0]");
        told("a[(0|0)]|0", "a[0]");
        told("a[b[0]|0]", "a[b[0]]");
        MovingBoxes boxes = Check.of("a[b[<a.0]]");
        boxes.take(0);
        check.due("when all have left", Check.text(boxes), "a[0]|b[0]");
    }

    private void sortedByCodes() {
        check.about("Terms: sorted (as rows of characters, by their codes)");
        told("f[0]|a[0]|^a.0|?x.0|>a.0|<a.0|'f|'a|!?x.0|!>a.0",
            "!>a.0|!?x.0|'a|'f|<a.0|>a.0|?x.0|^a.0|a[0]|f[0]");
        told(">a.b[0]|>a.>b.0|>a.0|>a.('b|'c)|>a.'b|>a.!>b.0|>a.^b.0",
            ">a.!>b.0|>a.'b|>a.('b|'c)|>a.0|>a.>b.0|>a.^b.0|>a.b[0]");
        told("a[b[0]]|a[0]|a['b]|a[!>b.0]", "a[!>b.0]|a['b]|a[0]|a[b[0]]");
        told("'a|'a|'a", "'a|'a|'a");
    }

    /** No text of a part is the beginning of another one's, so that rule is seen in how they end alone. */
    private void sortedAsRows() {
        check.about("Terms: one that is the beginning of another comes first");
        told("a['a|'b]|a['a]", "a['a]|a['a|'b]");
        told("a[b[0]|c[0]]|a[b[0]]", "a[b[0]]|a[b[0]|c[0]]");
        told(">a.('a|'b|'c)|>a.('a|'b)", ">a.('a|'b)|>a.('a|'b|'c)");
        told("a[a['a|'a]|a['a]]", "a[a['a]|a['a|'a]]");
    }

    private void tailsOfNoneOneAndSeveral() {
        check.about("Terms: Of a tail: 0, if its parts are none; the text of its one part; else (, the texts of all sorted, )");
        told(">a.(0|(0))", ">a.0");
        told(">a.((0)|('b))", ">a.'b");
        told(">a.((('b)))", ">a.'b");
        told(">a.('c|('b))", ">a.('b|'c)");
        told(">a.('c|(0|('b|'a)))", ">a.('a|'b|'c)");
        told(">a.>b.('d|'c)", ">a.>b.('c|'d)");
        told(">a.(>b.(0)|0)", ">a.>b.0");
    }

    private void placesInTails() {
        check.about("Terms: A place written in a tail has in its [ ] the texts of its parts likewise (0 when there are none)");
        told(">a.b[0]", ">a.b[0]");
        told(">a.b[(0|0)]", ">a.b[0]");
        told(">a.b[('c)]", ">a.b['c]");
        told(">a.b[('d|'c)]", ">a.b['c|'d]");
        told(">a.b[>c.('d|'c)]", ">a.b[>c.('c|'d)]");
    }

    private void lettersThatMeanSomething() {
        check.about("Terms: Letters that mean a name by now are written as that; an INPUT's own letter means nothing in its tail");
        MovingBoxes boxes = Check.of("?x.?y.(>x.?x.('x|'y)|x['y])|'f");
        check.due("none by now", Check.text(boxes), "'f|?x.?y.(>x.?x.('x|'y)|x['y])");
        boxes.take(0);
        check.due("x, but not the inner x", Check.text(boxes), "?y.(>f.?x.('x|'y)|f['y])");
    }

    private static MovingBoxes busy() {
        MovingBoxes boxes = Check.of("a[!>b.'c|!<b.0]|b[0]");
        boxes.fair(3);
        boxes.keep(1);
        boxes.explore(9, 1, 0);
        return boxes;
    }

    private void countFrom0To4() {
        check.about("Promise 9: IndexOutOfBoundsException, for another what");
        check.due("0 to 4", Check.counts(busy()), "2,2,2,6,3");
        twins.refused("-1", TellingEdgesTest::busy, boxes -> boxes.count(-1), IOOBE);
        twins.refused("5", TellingEdgesTest::busy, boxes -> boxes.count(5), IOOBE);
        for (int what : FAR) {
            twins.refused("" + what, TellingEdgesTest::busy, boxes -> boxes.count(what), IOOBE);
        }
        twins.refused("of a new object", MovingBoxes::new, boxes -> boxes.count(5), IOOBE);
    }

    private void countsAtTheirLimits() {
        check.about("Promise 9: Of the state: places (0), waiting guards (1), messages (2)");
        check.due("20", Check.counts(Check.of(Check.times(20, "a[0]"))), "20,0,0,20,0");
        check.due("30", Check.counts(Check.of(Check.times(30, "'a"))), "0,0,30,30,0");
        MovingBoxes boxes = Check.of("!?x.('x|>a.0)|'a");
        boxes.fair(30);
        boxes.fair(9);
        check.due("40", Check.counts(boxes), "0,40,1,80,39");
        check.due("what is in tails is not there yet", Check.counts(Check.of(">a.(b[0]|'c|>d.0)")), "0,1,0,1,0");
    }

    private void lettersOfTheText() {
        check.about("Promise 10: Character i of the state's text; NONE behind its end");
        MovingBoxes none = new MovingBoxes();
        check.due("the only one", none.letter(0), (int) '0');
        check.due("behind it", none.letter(1), MovingBoxes.NONE);
        String text = "'a|b[0]";
        MovingBoxes boxes = Check.of(text);
        for (int i = 0; i < text.length(); i++) {
            check.due("letter " + i, boxes.letter(i), (int) text.charAt(i));
        }
        for (int i : new int[] {7, 8, 119, 120, 239, 240, 241, 65536, Integer.MAX_VALUE - 1, Integer.MAX_VALUE}) {
            check.due("letter " + i, Check.answer(() -> boxes.letter(i)), MovingBoxes.NONE);
        }
        Check.read(boxes, "'b");
        check.due("the last one of a shorter text", boxes.letter(1), (int) 'b');
        check.due("nothing of the longer text before", boxes.letter(2), MovingBoxes.NONE);
    }

    private static void grow(MovingBoxes boxes, char last) {
        Check.read(boxes, LONGEST.replace('N', last));
        for (int i = 0; i < 11; i++) {
            boxes.take(0);
        }
    }

    private static MovingBoxes longest(char last) {
        MovingBoxes boxes = new MovingBoxes();
        grow(boxes, last);
        return boxes;
    }

    private void lettersOfTheLongestText() {
        check.about("Promise 10: NONE behind its end (of 240 characters)");
        MovingBoxes boxes = longest('c');
        check.due("letter 238", boxes.letter(238), (int) '\'');
        check.due("letter 239", boxes.letter(239), (int) 'c');
        check.due("letter 240", boxes.letter(240), MovingBoxes.NONE);
        check.due("letter 241", boxes.letter(241), MovingBoxes.NONE);
    }

    private void lettersBelow0() {
        check.about("Promise 10: IndexOutOfBoundsException, when i is below 0");
        for (int i : new int[] {-1, -2, -240, -65536, Integer.MIN_VALUE, Integer.MIN_VALUE + 1}) {
            twins.refused("letter " + i, TellingEdgesTest::busy, boxes -> boxes.letter(i), IOOBE);
        }
    }

    private void slotsToKeepIn() {
        check.about("Promise 11: slot 0 .. 2; IndexOutOfBoundsException, when there is no such slot");
        for (int slot = 0; slot < 3; slot++) {
            MovingBoxes boxes = Check.of("'a|b[0]");
            check.due("keep " + slot, boxes.keep(slot), 7);
            for (int other = 0; other < 3; other++) {
                int asked = other;
                check.due("equal " + other, Check.answer(() -> boxes.equal(asked)), other == slot ? (Object) true : NSEE);
            }
        }
        twins.refused("keep -1", TellingEdgesTest::busy, boxes -> boxes.keep(-1), IOOBE);
        twins.refused("keep 3", TellingEdgesTest::busy, boxes -> boxes.keep(3), IOOBE);
        for (int slot : FAR) {
            twins.refused("keep " + slot, TellingEdgesTest::busy, boxes -> boxes.keep(slot), IOOBE);
        }
    }

    private void keepingAgain() {
        check.about("Promise 11: Keeps the state's text in slot 0 .. 2");
        MovingBoxes boxes = Check.of("^a.0|a['b]");
        boxes.keep(0);
        boxes.keep(1);
        boxes.take(0);
        check.due("kept is not what comes later", boxes.equal(0), false);
        check.due("a shorter text over a longer one", boxes.keep(0), 2);
        check.due("that one", boxes.equal(0), true);
        check.due("the other slot is as it was", boxes.equal(1), false);
        boxes.read();
        check.due("the shorter one is kept there", boxes.equal(0), false);
        check.due("the longer one in the other slot", boxes.equal(1), true);
    }

    private void lengthsThatAreKept() {
        check.about("Promise 11: how many characters it has");
        check.due("one", new MovingBoxes().keep(0), 1);
        check.due("two", Check.of("'a").keep(1), 2);
        check.due("240", longest('c').keep(2), 240);
    }

    private void slotsToCompare() {
        check.about("Promise 12: IndexOutOfBoundsException, when there is no such slot");
        twins.refused("equal -1", TellingEdgesTest::busy, boxes -> boxes.equal(-1), IOOBE);
        twins.refused("equal 3", TellingEdgesTest::busy, boxes -> boxes.equal(3), IOOBE);
        for (int slot : FAR) {
            twins.refused("equal " + slot, TellingEdgesTest::busy, boxes -> boxes.equal(slot), IOOBE);
        }
        twins.refused("where nothing is kept at all", MovingBoxes::new, boxes -> boxes.equal(3), IOOBE);
    }

    private void nothingWasKept() {
        check.about("Promise 12: NoSuchElementException, when nothing was kept there");
        twins.refused("equal 0", TellingEdgesTest::busy, boxes -> boxes.equal(0), NSEE);
        twins.refused("equal 2", TellingEdgesTest::busy, boxes -> boxes.equal(2), NSEE);
        check.due("equal 1", busy().equal(1), true);
        for (int slot = 0; slot < 3; slot++) {
            int asked = slot;
            twins.refused("of a new object", MovingBoxes::new, boxes -> boxes.equal(asked), NSEE);
        }
        MovingBoxes root = new MovingBoxes();
        root.keep(0);
        check.due("a root alone is something", root.equal(0), true);
    }

    private void textsThatDifferInTheLast() {
        check.about("Terms: Two states are EQUAL when their texts are (to the last character)");
        MovingBoxes boxes = longest('c');
        check.due("240", boxes.keep(0), 240);
        check.due("itself", boxes.equal(0), true);
        grow(boxes, 'd');
        check.due("as long, another last character", boxes.equal(0), false);
        grow(boxes, 'c');
        check.due("the same again", boxes.equal(0), true);
    }

    private void textsThatDifferElsewhere() {
        check.about("Terms: Two states are EQUAL when their texts are (from the first character on)");
        MovingBoxes boxes = Check.of(">a.0");
        boxes.keep(0);
        Check.read(boxes, "<a.0");
        check.due("another first character", boxes.equal(0), false);
        Check.read(boxes, ">b.0");
        check.due("another second character", boxes.equal(0), false);
        Check.read(boxes, ">a.(0|0)");
        check.due("none", boxes.equal(0), true);
        Check.read(boxes, "'b|a[0]");
        boxes.keep(1);
        Check.read(boxes, "'c|a[0]");
        check.due("another one in the beginning", boxes.equal(1), false);
        Check.read(boxes, "a[(0)]|('b|0)");
        check.due("written in another way", boxes.equal(1), true);
    }

    private void textsThatBeginAlike() {
        check.about("Promise 12: Whether the state is equal to that which was kept");
        MovingBoxes boxes = Check.of("'a|'b");
        boxes.keep(0);
        Check.read(boxes, "'a");
        check.due("its beginning", boxes.equal(0), false);
        boxes.keep(1);
        Check.read(boxes, "'a|'b");
        check.due("the longer one with the shorter one", boxes.equal(1), false);
        check.due("with itself", boxes.equal(0), true);
        boxes.erase();
        check.due("it can't be read", Check.answer(boxes::read), IAE);
        check.due("the root alone with something", boxes.equal(0), false);
        boxes.keep(2);
        check.due("with itself", boxes.equal(2), true);
    }

    private void namesToShow() {
        check.about("Promise 13: two names (0 .. 5 for a .. f); IllegalArgumentException, when one is no name");
        for (int outer = 0; outer < 6; outer++) {
            for (int inner = 0; inner < 6; inner++) {
                MovingBoxes boxes = Check.of((char) ('a' + outer) + "[" + (char) ('a' + inner) + "[0]]");
                for (int pair = 0; pair < 36; pair++) {
                    boolean due = pair / 6 == outer && pair % 6 == inner;
                    check.due("shows " + pair / 6 + ", " + pair % 6, boxes.shows(pair / 6, pair % 6), due);
                }
            }
        }
        for (int name : new int[] {-1, 6, 7, 'a', Integer.MIN_VALUE, Integer.MAX_VALUE}) {
            for (int other : new int[] {0, 5, -1, 6}) {
                twins.refused("outer " + name, TellingEdgesTest::busy, boxes -> boxes.shows(name, other), IAE);
                twins.refused("inner " + name, TellingEdgesTest::busy, boxes -> boxes.shows(other, name), IAE);
            }
        }
    }

    private void notDeeper() {
        check.about("Terms: when a place with the first one has a place with the second one in it (not deeper)");
        MovingBoxes boxes = Check.of("a[b[c[0]]]|d[0]|e[>a.a[c[0]]]|f['a]");
        check.due("in it", boxes.shows(0, 1), true);
        check.due("in the inner one", boxes.shows(1, 2), true);
        check.due("deeper", boxes.shows(0, 2), false);
        check.due("the other way", boxes.shows(1, 0), false);
        check.due("itself", boxes.shows(0, 0), false);
        check.due("beside it", boxes.shows(0, 3), false);
        check.due("in a tail", boxes.shows(4, 0), false);
        check.due("a message", boxes.shows(5, 0), false);
        check.due("two of one name beside one another", Check.of("a[0]|a[0]").shows(0, 0), false);
        check.due("two of one name in one another", Check.of("a[a[0]]").shows(0, 0), true);
        check.due("none", new MovingBoxes().shows(0, 0), false);
        check.due("the last of twenty", Check.of(Check.times(18, "a[0]") + "|b[a[0]]").shows(1, 0), true);
    }
}
