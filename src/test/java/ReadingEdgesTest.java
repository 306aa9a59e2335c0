/** What "Terms" says of what can be read, and the boundary cases of promise 4, sentence by sentence. */
public final class ReadingEdgesTest {
    private static final String IAE = "throws.IllegalArgumentException";
    private static final String ISE = "throws.IllegalStateException";
    private static final String UOE = "throws.UnsupportedOperationException";
    private static final String IOOBE = "throws.IndexOutOfBoundsException";
    /** What puts a part one deeper, each with what closes it. */
    private static final String[][] DEEPER = {{"a[", "]"}, {"(", ")"}, {"!?x.", ""}};
    /** What stands around a part that is 8 deep. */
    private static final String SEVEN = "(((((((";
    private static final String LIVELY = "a[!>b.'c|!<b.0]|b[0]";

    private final Check check = new Check();

    public static void main(String[] args) {
        ReadingEdgesTest test = new ReadingEdgesTest();
        test.onePartAtLeast();
        test.aTailIsOnePart();
        test.names();
        test.lettersOfInputs();
        test.lettersOutsideOfTheTail();
        test.atMost8Deep();
        test.whatMayStand8Deep();
        test.besideWhatIs8Deep();
        test.beforeItIsLookedAt();
        test.oneStepBeforeTooDeep();
        test.whateverComesFirst();
        test.behindAReplicasSign();
        test.nodesThatFit();
        test.placesOfAReading();
        test.messagesOfAReading();
        test.guardsAndTextOfAReading();
        test.tooMuchIsLookedAtLast();
        test.theTextStays();
        test.theRootAloneWhenItThrows();
        test.numbersBeginAt0();
        test.whatWasKeptStays();
        test.check.end();
    }

    private void reads(String text, Object due) {
        check.due("read " + text, Check.read(new MovingBoxes(), text), due);
    }

    private void reads(String text, Object due, String told) {
        MovingBoxes boxes = new MovingBoxes();
        check.due("read " + text, Check.read(boxes, text), due);
        check.due("the text of " + text, Check.text(boxes), told);
    }

    private void onePartAtLeast() {
        check.about("Terms: It is a PROCESS (of one part at least)");
        reads("0", 0, "0");
        reads("(0)", 0, "0");
        for (String one : new String[] {"'a", "a[0]", ">a.0", "!<a.0"}) {
            reads(one, 1, one);
        }
        for (String none : new String[] {"", "()", "a[]", ">a.()", ">a.b[]", "|", "0|", "|0", "0||0", "(|)", "a[0|]"}) {
            reads(none, IAE, "0");
        }
    }

    private void aTailIsOnePart() {
        check.about("Terms: a dot, and a part (its TAIL)");
        reads(">a.0", 1, ">a.0");
        reads(">a.'b|'c", 3, "'c|>a.'b");
        reads(">a.('b|'c)", 3, ">a.('b|'c)");
        for (String text : new String[] {">a.", ">a", ">a0", ">a.|'c", ">a.'b'c", ">a..0", ">a.0.0"}) {
            reads(text, IAE, "0");
        }
    }

    private void names() {
        check.about("Terms: A NAME: a .. f");
        for (char c = 33; c < 127; c++) {
            boolean isName = c >= 'a' && c <= 'f';
            for (String text : new String[] {c + "[0]", "'" + c, ">" + c + ".0", "<" + c + ".0", "!^" + c + ".0"}) {
                reads(text, isName ? (Object) 1 : IAE);
            }
            for (char letter = 'x'; letter <= 'z'; letter++) {
                String text = "?" + letter + ".(" + c + "['" + c + "]|>" + c + ".0)";
                reads(text, isName || c == letter ? (Object) 4 : IAE);
            }
        }
    }

    private void lettersOfInputs() {
        check.about("Terms: ? and a LETTER x, y or z (INPUT)");
        for (char c = 33; c < 127; c++) {
            reads("?" + c + ".0", c >= 'x' && c <= 'z' ? (Object) 1 : IAE);
            reads("!?" + c + ".0", c >= 'x' && c <= 'z' ? (Object) 1 : IAE);
        }
    }

    private void lettersOutsideOfTheTail() {
        check.about("Terms: or a letter that an INPUT binds in whose tail it stands (of several the innermost one's)");
        reads("?x.'x", 2);
        reads("?x.('x|'x)", 3);
        reads("?x.?y.'x", 3);
        reads("?x.(?y.'y|'x)", 4);
        reads("?x.(?x.'x|'x)", 4);
        reads("?x.x[>x.<x.^x.0]", 5);
        String[] outside = {
            "?x.0|'x", "?x.'x|'x", "?x.('x)|'x", "'x|?x.0", "a[?x.'x]|'x", "a[?x.'x|'x]", "?x.(?y.'y|'y)", "?x.'y", "?x.y[0]"};
        for (String text : outside) {
            reads(text, IAE, "0");
        }
        MovingBoxes boxes = Check.of("?x.(?x.'x|'x)|'a|'b");
        boxes.take(0);
        check.due("the inner one's means nothing yet", Check.text(boxes), "'a|'b|?x.'x");
        boxes.take(1);
        check.due("the inner one's", Check.text(boxes), "'a|'b");
    }

    private static int waysOf(int deep) {
        int ways = 1;
        for (int level = 1; level < deep; level++) {
            ways *= DEEPER.length;
        }
        return ways;
    }

    /** A text with the part so deep in it: the digits of the ways say which of DEEPER stands on each level. */
    private static String nested(int ways, int deep, String part) {
        StringBuilder opening = new StringBuilder();
        StringBuilder closing = new StringBuilder();
        int left = ways;
        for (int level = 1; level < deep; level++) {
            String[] way = DEEPER[left % DEEPER.length];
            opening.append(way[0]);
            closing.insert(0, way[1]);
            left /= DEEPER.length;
        }
        return opening + part + closing;
    }

    private static int nodesAround(int ways, int deep) {
        String text = nested(ways, deep, "");
        return (int) text.chars().filter(c -> c == '[' || c == '.').count();
    }

    private void atMost8Deep() {
        check.about("Terms: those in [ ], those in ( ) and tails one deeper than what they stand in; at most 8");
        for (int ways = 0; ways < waysOf(8); ways++) {
            reads(nested(ways, 8, "'b"), nodesAround(ways, 8) + 1);
            reads(nested(ways, 8, "0"), nodesAround(ways, 8));
        }
        for (int ways = 0; ways < waysOf(9); ways++) {
            reads(nested(ways, 9, "0"), ISE);
        }
    }

    private void whatMayStand8Deep() {
        check.about("Promise 4: IllegalStateException, when a part would begin more than 8 deep");
        for (int ways = 0; ways < waysOf(8); ways += 13) {
            for (String part : new String[] {"a[0]", "(0)", ">a.0", "!<b.'c", "?z.0", "a[('c)]"}) {
                reads(nested(ways, 8, part), ISE, "0");
                reads(nested(ways / 3, 7, "(" + part + ")"), ISE, "0");
            }
        }
        for (String part : new String[] {"a[0]", "(0)", ">a.0", "!<b.'c", "?z.0"}) {
            reads("((((((" + part + "))))))", part.length() == 3 ? 0 : part.indexOf('\'') < 0 ? 1 : 2);
        }
    }

    private void besideWhatIs8Deep() {
        check.about("Terms: The text's own parts are 1 deep");
        String deep = "(((((((0)))))))";
        reads(deep + "|" + deep + "|" + deep, 0, "0");
        reads(SEVEN + "'a|0|'b" + ")))))))|'c", 3, "'a|'b|'c");
        reads("a[" + "((((((0))))))|((((((0))))))" + "]|" + deep, 1, "a[0]");
        reads(deep + "|(" + deep + ")", ISE, "0");
        reads("0|" + "((((((((0))))))))", ISE, "0");
    }

    private void beforeItIsLookedAt() {
        check.about("Promise 4: (before it is looked at what stands there, or whether anything does)");
        for (String before : new String[] {SEVEN + "(", SEVEN + "a[", SEVEN + ">a.", SEVEN + "!?x.", ">a.>a.>a.>a.>a.>a.>a.>a."}) {
            reads(before, ISE, "0");
            for (char c = 32; c < 127; c++) {
                reads(before + c, ISE);
            }
        }
    }

    /** One character before a part would be too deep all else is still unreadable. */
    private void oneStepBeforeTooDeep() {
        check.about("Promise 4: IllegalArgumentException, when it can't be read");
        reads(SEVEN, IAE, "0");
        for (char c = 32; c < 127; c++) {
            reads(SEVEN + c, c == '(' ? ISE : IAE);
            reads(SEVEN + "a" + c, c == '[' ? ISE : IAE);
            reads(SEVEN + ">a" + c, c == '.' ? ISE : IAE);
            reads(SEVEN + "!?z" + c, c == '.' ? ISE : IAE);
            reads(SEVEN + ">" + c, IAE);
            reads(SEVEN + "!" + c, IAE);
            reads(SEVEN + "'" + c, IAE);
            reads(SEVEN + "0" + c, IAE);
        }
    }

    private void whateverComesFirst() {
        check.about("Promise 4: whatever comes first in the text");
        String tooDeep = "((((((((0))))))))";
        for (String unreadable : new String[] {"'g", "'x", "$", "a", "g[0]", "!0", "?a.0", ">a", "0 0", "a[]", "()"}) {
            reads(unreadable + "|" + tooDeep, IAE, "0");
            reads(tooDeep + "|" + unreadable, ISE, "0");
        }
        reads("0)" + tooDeep, IAE, "0");
        reads(SEVEN + "x[", IAE);
        reads(SEVEN + "g[", IAE);
        reads(SEVEN + ">g.", IAE);
        reads(SEVEN + ">x.", IAE);
        reads(SEVEN + "?a.", IAE);
        reads("?x.((((((x[", ISE);
        reads("?x.((((((y[", IAE);
        reads("?x.(((((('x", IAE);
    }

    private void behindAReplicasSign() {
        check.about("Promise 4: of a replica by the guard's sign behind !, without which it can't be read");
        for (char c = 33; c < 127; c++) {
            reads("!" + c + "a.0", "><^".indexOf(c) >= 0 ? (Object) 1 : IAE);
            reads("!" + c + "x.0", c == '?' ? (Object) 1 : IAE);
            reads("!" + c + "[0]", IAE);
        }
        for (String text : new String[] {"!", "!!>a.0", "!(>a.0)", "!0", "!'a", "!a[0]", ">a.!", "!|>a.0"}) {
            reads(text, IAE, "0");
        }
        reads("! > a.0", 1, "!>a.0");
    }

    /** A 51st node can't be reached: 51 that begin take 144 characters at least, 41 that end 122. */
    private void nodesThatFit() {
        check.about("Terms: At most 50 parts are other than 0 and ( ): NODES");
        String forty = Check.times(5, "<a.<a.<a.<a.<a.<a.<a.'a");
        reads(forty, 40, forty);
        reads("a[a[a[a[a[a[a[" + "'a|".repeat(35) + "'", IAE, "0");
        reads("0|" + "(0)|".repeat(29) + "0", 0, "0");
        reads("((0|0)|0)|0|a[(0|0)]", 1, "a[0]");
    }

    private void placesOfAReading() {
        check.about("Terms: A state is TOO MUCH with more than 20 places besides the root (read)");
        String seven = "a[a[a[a[a[a[a[0]]]]]]]";
        String six = "a[a[a[a[a[a[0]]]]]]";
        reads(Check.times(20, "a[0]"), 20, Check.times(20, "a[0]"));
        reads(Check.times(21, "a[0]"), UOE, "0");
        reads("(" + Check.times(20, "b[0]") + ")", 20, Check.times(20, "b[0]"));
        reads("(" + Check.times(21, "b[0]") + ")", UOE, "0");
        reads(seven + "|" + seven + "|" + six, 20, six + "|" + seven + "|" + seven);
        reads(seven + "|" + seven + "|" + seven, UOE, "0");
        reads("c[" + Check.times(19, "a[0]") + "]", 20, "c[" + Check.times(19, "a[0]") + "]");
        reads("c[" + Check.times(20, "a[0]") + "]", UOE, "0");
        reads(">a.(b[0]|c[0])|" + Check.times(20, "a[0]"), 23, ">a.(b[0]|c[0])|" + Check.times(20, "a[0]"));
    }

    private void messagesOfAReading() {
        check.about("Terms: A state is TOO MUCH with more than 30 messages (read)");
        reads(Check.times(30, "'f"), 30, Check.times(30, "'f"));
        reads(Check.times(31, "'f"), UOE, "0");
        reads("a[" + Check.times(15, "'f") + "]|(" + Check.times(15, "'e") + ")", 31,
            Check.times(15, "'e") + "|a[" + Check.times(15, "'f") + "]");
        reads("a[" + Check.times(15, "'f") + "]|(" + Check.times(16, "'e") + ")", UOE, "0");
        reads("!?x.('x|'a)|" + Check.times(30, "'f"), 33, "!?x.('a|'x)|" + Check.times(30, "'f"));
    }

    /** 41 guards or 241 characters can't come by reading: a guard beside others takes 5 characters at least. */
    private void guardsAndTextOfAReading() {
        check.about("Terms: A state is TOO MUCH with more than 40 waiting guards, or 240 characters of its text (read)");
        MovingBoxes boxes = new MovingBoxes();
        String text = Check.times(23, ">a.0") + "|!>a.0";
        check.due("120 characters", Check.read(boxes, text), 24);
        check.due("counts", Check.counts(boxes), "0,24,0,24,0");
        check.due("a text as long", boxes.keep(0), 120);
    }

    private void tooMuchIsLookedAtLast() {
        check.about("Promise 4: UnsupportedOperationException, when the state would be too much");
        reads(Check.times(31, "'f") + "|$", IAE, "0");
        reads(Check.times(31, "'f") + "|((((((((0))))))))", ISE, "0");
        reads(Check.times(31, "'f") + "|0", UOE, "0");
        reads(Check.times(21, "a[0]") + "]", IAE, "0");
        reads(Check.times(20, "a[0]") + "|a[", IAE, "0");
    }

    private static final String[] REFUSED = {
        "$", "", "'a|", "((((((((0))))))))", Check.times(31, "'a"), Check.times(21, "a[0]")};

    private void theTextStays() {
        check.about("Promise 4: Reads the text (which stays)");
        MovingBoxes boxes = Check.of(LIVELY);
        check.due("again", boxes.read(), 5);
        check.due("more behind it", boxes.write(Check.eight("|'d"), 3), 23);
        check.due("the longer one", boxes.read(), 6);
        check.due("erase", boxes.erase(), 23);
        for (String text : REFUSED) {
            MovingBoxes refused = new MovingBoxes();
            Object first = Check.read(refused, text);
            check.due("refused again: " + text, Check.answer(refused::read), first);
            check.due("its length", refused.erase(), text.length());
        }
        MovingBoxes mended = new MovingBoxes();
        check.due("not yet", Check.read(mended, "'a|"), IAE);
        check.due("mended", mended.write('0', 1), 4);
        check.due("can be read", mended.read(), 1);
    }

    private void theRootAloneWhenItThrows() {
        check.about("Promise 4: When it throws, the state is the root alone");
        for (String text : REFUSED) {
            MovingBoxes boxes = Check.of(LIVELY);
            boxes.fair(3);
            boxes.explore(9, 1, 0);
            check.due("it throws: " + text, Check.read(boxes, text).toString().startsWith("throws."), true);
            check.due("counts", Check.counts(boxes), "0,0,0,0,0");
            check.due("text", Check.text(boxes), "0");
            check.due("redexes", boxes.redexes(), 0);
            check.due("no redex", Check.answer(() -> boxes.redex(0, 0)), IOOBE);
            check.due("none to take", Check.answer(() -> boxes.take(0)), IOOBE);
            check.due("no fair step", boxes.fair(30), 0);
            check.due("no shape", boxes.shows(1, 0), false);
            check.due("what was explored is gone", Check.explored(boxes), "0,0,0,-1,0");
            check.due("one state", boxes.explore(30, 1, 0), 1);
            check.due("without a redex", Check.explored(boxes), "1,1,1,-1,0");
            check.due("its text", boxes.keep(2), 1);
            check.due("reading goes on", Check.read(boxes, LIVELY), 5);
            check.due("as from the beginning", Check.redexes(boxes) + " " + Check.counts(boxes), "0,1,3,0 2,2,0,4,0");
        }
    }

    private void numbersBeginAt0() {
        check.about("Promise 4: In any case numbers begin at 0, no steps were taken, what was explored is gone");
        MovingBoxes boxes = Check.of(LIVELY + "|?x.0|'f");
        boxes.fair(30);
        boxes.explore(9, 1, 0);
        check.due("before", boxes.count(4), 30);
        check.due("read again", boxes.read(), 7);
        check.due("counts", Check.counts(boxes), "2,3,1,6,0");
        check.due("numbers and ages", Check.redexes(boxes), "0,1,3,0 3,4,5,0");
        check.due("nothing explored", Check.explored(boxes), "0,0,0,-1,0");
        boxes.take(0);
        boxes.read();
        check.due("not older by reading again", Check.redexes(boxes), "0,1,3,0 3,4,5,0");
    }

    private void whatWasKeptStays() {
        check.about("Promise 4: what was kept stays");
        MovingBoxes boxes = Check.of(LIVELY);
        boxes.keep(0);
        boxes.take(0);
        boxes.keep(2);
        for (String text : REFUSED) {
            Check.read(boxes, text);
            check.due("another one, not none", boxes.equal(0), false);
            check.due("none as before", Check.answer(() -> boxes.equal(1)), "throws.NoSuchElementException");
        }
        Check.read(boxes, LIVELY);
        check.due("the same again", boxes.equal(0), true);
        boxes.take(0);
        check.due("and the other one", boxes.equal(2), true);
    }
}
