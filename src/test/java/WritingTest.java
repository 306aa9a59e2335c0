import java.util.Collections;

/** Promises 1 to 4: a new object, write, erase, read. */
public final class WritingTest {
    private static final String IAE = "throws.IllegalArgumentException";
    private static final String ISE = "throws.IllegalStateException";
    private static final String UOE = "throws.UnsupportedOperationException";
    private static final String NEW = "0 /  / 0,0,0,0,0 / 0,0,0,-1,0"
        + " / throws.NoSuchElementException / throws.NoSuchElementException / throws.NoSuchElementException";

    private final Check check = new Check();

    public static void main(String[] args) {
        WritingTest test = new WritingTest();
        test.newObject();
        test.writing();
        test.wrongWriting();
        test.fullText();
        test.erasing();
        test.readable();
        test.unreadable();
        test.tooDeep();
        test.whatComesFirst();
        test.tooMuch();
        test.whatReadingForgets();
        test.check.end();
    }

    private void newObject() {
        MovingBoxes boxes = new MovingBoxes();
        check.due("a new object", Check.all(boxes), NEW);
        check.due("its text", boxes.erase(), 0);
        check.due("NONE", MovingBoxes.NONE, -1);
        check.due("fair at once", boxes.fair(30), 0);
        check.due("explore at once", boxes.explore(30, 0, 0), 1);
        check.due("explored then", Check.explored(boxes), "1,1,1,-1,0");
        check.due("objects share nothing", Check.all(new MovingBoxes()), NEW);
    }

    private void writing() {
        MovingBoxes boxes = new MovingBoxes();
        check.due("one", boxes.write(Check.eight("a"), 1), 1);
        check.due("eight", boxes.write(Check.eight("[b['c]]|"), 8), 9);
        check.due("the lowest of eight", boxes.write(Check.eight("'d??????"), 2), 11);
        check.due("bytes behind are free", boxes.write(0xFF00FF0000000000L | Check.eight("   "), 3), 14);
        check.due("nothing is read yet", Check.text(boxes), "0");
        check.due("read", boxes.read(), 4);
        check.due("text", Check.text(boxes), "'d|a[b['c]]");
        check.due("~ is a character", boxes.write(126, 1), 15);
        check.due("a space is one", boxes.write(32, 1), 16);
        check.due("the state stays", Check.text(boxes), "'d|a[b['c]]");
    }

    private void wrongWriting() {
        MovingBoxes boxes = Check.of("'a");
        boxes.keep(0);
        String before = Check.all(boxes);
        for (int n : new int[] {0, -1, 9, 64, Integer.MIN_VALUE, Integer.MAX_VALUE}) {
            check.due("n = " + n, Check.answer(() -> boxes.write(Check.eight("00000000"), n)), IAE);
        }
        for (int c : new int[] {0, 9, 10, 31, 127, 128, 160, 255}) {
            for (int i = 0; i < 8; i++) {
                long eight = Check.eight("00000000") & ~(255L << 8 * i) | (long) c << 8 * i;
                check.due(c + " at " + i, Check.answer(() -> boxes.write(eight, 8)), IAE);
            }
        }
        check.due("nothing was written", boxes.erase(), 2);
        check.due("nothing has changed", Check.all(boxes), before);
    }

    private void fullText() {
        MovingBoxes boxes = new MovingBoxes();
        Check.write(boxes, " ".repeat(116));
        check.due("8 behind 116", Check.answer(() -> boxes.write(Check.eight("00000000"), 8)), ISE);
        check.due("5 behind 116", Check.answer(() -> boxes.write(Check.eight("00000"), 5)), ISE);
        check.due("4 behind 116", Check.answer(() -> boxes.write(Check.eight("'a|0"), 4)), 120);
        check.due("1 behind 120", Check.answer(() -> boxes.write(Check.eight("0"), 1)), ISE);
        check.due("no character behind 120", Check.answer(() -> boxes.write(9, 1)), IAE);
        check.due("none behind 120", Check.answer(() -> boxes.write(0, 0)), IAE);
        check.due("120 can be read", boxes.read(), 1);
        check.due("text", Check.text(boxes), "'a");
        check.due("erase", boxes.erase(), 120);
    }

    private void erasing() {
        MovingBoxes boxes = Check.of("a[ 0 ]");
        check.due("erase", boxes.erase(), 6);
        check.due("the state stays", Check.text(boxes), "a[0]");
        check.due("erase again", boxes.erase(), 0);
        check.due("no text can't be read", Check.answer(boxes::read), IAE);
        check.due("the state is gone then", Check.text(boxes), "0");
        check.due("from the beginning", boxes.write(Check.eight("'f"), 2), 2);
        check.due("read", boxes.read(), 1);
        check.due("text", Check.text(boxes), "'f");
    }

    private void reads(String text, Object answer, String told) {
        MovingBoxes boxes = new MovingBoxes();
        check.due("read " + text, Check.read(boxes, text), answer);
        check.due("the text of " + text, Check.text(boxes), told);
    }

    private void readable() {
        reads("0", 0, "0");
        reads("(((0|0)|0))", 0, "0");
        reads("  a  [  0 | ' b ]  ", 2, "a['b]");
        reads("! > a . 0", 1, "!>a.0");
        reads("f[0]|'e|>d.0|<c.0|^b.0|?x.0", 6, "'e|<c.0|>d.0|?x.0|^b.0|f[0]");
        reads("?x.('x|x[>x.<x.^x.0])", 6, "?x.('x|x[>x.<x.^x.0])");
        reads("?x.?y.?z.('z|'y|'x)", 6, "?x.?y.?z.('x|'y|'z)");
        reads("?y.!?y.'y", 3, "?y.!?y.'y");
        reads("(((((((0)))))))", 0, "0");
        reads("((((((('a)))))))", 1, "'a");
        reads("a[a[a[a[a[a[a[0]]]]]]]", 7, "a[a[a[a[a[a[a[0]]]]]]]");
        reads("a[a[a[a[a[a[a['b]]]]]]]", 8, "a[a[a[a[a[a[a['b]]]]]]]");
        reads(">a.>a.>a.>a.>a.>a.>a.'a", 8, ">a.>a.>a.>a.>a.>a.>a.'a");
        reads(String.join("|", Collections.nCopies(5, "<a.<a.<a.<a.<a.<a.<a.'a")), 40,
            String.join("|", Collections.nCopies(5, "<a.<a.<a.<a.<a.<a.<a.'a")));
    }

    private void unreadable() {
        String[] texts = {
            "", " ", "        ", "|", "0|", "|0", "0||0", "00", "0 0", "()", "(0", "0)", "(0))", "(", "a[0]]", "(0]", "a[0)",
            "a", "a0", "a[", "a[0", "a[]", "a[|]", "a]", "ab[0]", "a[0]b[0]", "a[0]0", "g[0]", "w[0]", "x[0]", "z[0]", "A[0]",
            "'", "'0", "'g", "'x", "'A", "''a", "'a'a", "'a.0", "'ab",
            ">", ">a", ">a.", ">a0", ">.0", ">g.0", ">x.0", ">a.|0", ">>a.0", "<a", "^a", "<x.0", "^y.0", ">a.0.0",
            "?", "?x", "?x.", "?.0", "?a.0", "?w.0", "?x0", "?x.'y", "?x.0|'x", "(?x.0)|'x", "?x.x[0]|x[0]", "a[?x.0|'x]",
            "?x.(?y.0|'y)", "?xx.0",
            "!", "~>a.0", "!0", "!(0)", "!'a", "!a[0]", "!!>a.0", "!|0", ">a.!0", "!>", "! a",
            "$", "0$", "a[$]", "1", ".", "~", "-", "\"", "0,0", "{0}"};
        for (String text : texts) {
            reads(text, IAE, "0");
        }
    }

    private void tooDeep() {
        reads("((((((((0))))))))", ISE, "0");
        reads("a[a[a[a[a[a[a[a[0]]]]]]]]", ISE, "0");
        reads(">a.>a.>a.>a.>a.>a.>a.>a.0", ISE, "0");
        reads("?x.(a[!<x.(?y.(b[0])))", ISE, "0");
        reads("?x.(a[!<x.(?y.b[0]))", IAE, "0");
        reads("?x.(a[!<x.(?y.(b[0]))])", ISE, "0");
        reads("?x.(a[!<x.(?y.b[0])])", 5, "?x.a[!<x.?y.b[0]]");
        reads("0|0|((((((((", ISE, "0");
    }

    /** Errors are told from the left; a part's depth before anything of it. */
    private void whatComesFirst() {
        reads("((((((((", ISE, "0");
        reads("(((((((", IAE, "0");
        reads("(((((((($", ISE, "0");
        reads("((((((((|", ISE, "0");
        reads("((((((($(", IAE, "0");
        reads("(((((((x[(0)", IAE, "0");
        reads("(((((((a[", ISE, "0");
        reads("(((((((a", IAE, "0");
        reads("(((((((>a.", ISE, "0");
        reads("(((((((>a", IAE, "0");
        reads("(((((((>g.", IAE, "0");
        reads("(((((((?x.", ISE, "0");
        reads("(((((((?a.", IAE, "0");
        reads("(((((((!", IAE, "0");
        reads("$|((((((((", IAE, "0");
        reads("'x|((((((((", IAE, "0");
        reads("((((((((|'x", ISE, "0");
        reads("0)((((((((", IAE, "0");
    }

    private void tooMuch() {
        String twenty = String.join("|", Collections.nCopies(20, "a[0]"));
        String thirty = String.join("|", Collections.nCopies(30, "'a"));
        reads(twenty, 20, twenty);
        reads(twenty + "|a[0]", UOE, "0");
        reads(thirty, 30, thirty);
        reads(thirty + "|'a", UOE, "0");
        reads(thirty + "|>a.('a|'b)", 33, thirty + "|>a.('a|'b)");
        reads(twenty + "|<a.(b[0])", 22, "<a.b[0]|" + twenty);
    }

    private void whatReadingForgets() {
        MovingBoxes boxes = Check.of("^a.'b|a['c]");
        boxes.keep(1);
        boxes.explore(30, 0, 0);
        boxes.take(0);
        check.due("before", Check.counts(boxes) + " " + Check.explored(boxes), "0,0,2,4,1 2,1,1,-1,1");
        check.due("the text stays", boxes.read(), 4);
        check.due("afterwards", Check.counts(boxes) + " " + Check.explored(boxes), "1,1,1,3,0 0,0,0,-1,0");
        check.due("what was kept stays", boxes.equal(1), true);
        for (String text : new String[] {"$", "((((((((", String.join("|", Collections.nCopies(31, "'a"))}) {
            Check.read(boxes, "^a.'b|a['c]");
            boxes.explore(30, 0, 0);
            boxes.take(0);
            Object thrown = Check.read(boxes, text);
            check.due("it throws", thrown.toString().startsWith("throws."), true);
            check.due("a root alone", Check.counts(boxes) + " " + Check.redexes(boxes) + Check.text(boxes), "0,0,0,0,0 0");
            check.due("nothing explored", Check.explored(boxes), "0,0,0,-1,0");
            check.due("kept in spite of it", boxes.equal(1), false);
            check.due("the text is still there", boxes.erase(), text.length());
        }
    }
}
