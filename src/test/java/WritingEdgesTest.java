/** What "Terms" says of a text's characters, and the boundary cases of promises 1 to 3, sentence by sentence. */
public final class WritingEdgesTest {
    private static final String IAE = "throws.IllegalArgumentException";
    private static final String ISE = "throws.IllegalStateException";
    private static final String NSEE = "throws.NoSuchElementException";
    private static final int FULL = 120;

    private final Check check = new Check();
    private final Twins twins = new Twins(check);

    public static void main(String[] args) {
        WritingEdgesTest test = new WritingEdgesTest();
        test.atMost120();
        test.from32To126();
        test.spacesCountWhenWritten();
        test.spacesAreLeftOutWhenRead();
        test.noText();
        test.theRootAlone();
        test.nothingIsKept();
        test.nIsNot1To8();
        test.oneIsNoCharacter();
        test.onlyTheLowestBytes();
        test.moreThan120();
        test.wrongInBothWays();
        test.erasingNothing();
        test.erasingAFullText();
        test.check.end();
    }

    private static MovingBoxes with(String text) {
        MovingBoxes boxes = new MovingBoxes();
        Check.write(boxes, text);
        return boxes;
    }

    /** An object with a state, something kept and something explored, and a text of this length. */
    private static MovingBoxes busy(int length) {
        MovingBoxes boxes = Check.of("a[!>b.'c|!<b.0]|b[0]");
        boxes.keep(1);
        boxes.fair(3);
        boxes.explore(9, 1, 0);
        boxes.erase();
        Check.write(boxes, "?x.'x|'b" + " ".repeat(length - 8));
        return boxes;
    }

    private void atMost120() {
        check.about("Terms: A TEXT has at most 120 characters");
        MovingBoxes boxes = with("0".repeat(FULL - 1));
        check.due("the 120th", Check.answer(() -> boxes.write('0', 1)), FULL);
        check.due("the 121st", Check.answer(() -> boxes.write('0', 1)), ISE);
        check.due("120 are there", boxes.erase(), FULL);
        String text = "a[" + "0|".repeat(56) + "0]|'bb";
        check.due("a text of 119", Check.read(new MovingBoxes(), text.substring(0, 119)), 2);
        check.due("the last one of 120 is read too", Check.read(new MovingBoxes(), text), IAE);
    }

    private void from32To126() {
        check.about("Terms: A TEXT has at most 120 characters, 32 .. 126");
        for (int c = 0; c < 256; c++) {
            int character = c;
            Object due = c >= 32 && c <= 126 ? (Object) 1 : IAE;
            check.due("character " + c, Check.answer(() -> new MovingBoxes().write(character, 1)), due);
        }
    }

    private void spacesCountWhenWritten() {
        check.about("Terms: spaces (which count for the 120, and in what write() and erase() tell)");
        MovingBoxes boxes = new MovingBoxes();
        check.due("one space", boxes.write(' ', 1), 1);
        check.due("eight more", boxes.write(Check.eight("        "), 8), 9);
        check.due("all told by erase", boxes.erase(), 9);
        Check.write(boxes, " ".repeat(FULL - 1));
        check.due("the 120th", boxes.write(' ', 1), FULL);
        check.due("the 121st", Check.answer(() -> boxes.write(' ', 1)), ISE);
        check.due("erase", boxes.erase(), FULL);
    }

    private void spacesAreLeftOutWhenRead() {
        check.about("Terms: spaces are left out when it is read, wherever they stand");
        String text = "!?x.(x['a]|>x.0)|b[<c.^d.0]|'e";
        StringBuilder spaced = new StringBuilder(" ");
        for (char c : text.toCharArray()) {
            spaced.append(c).append("  ");
        }
        MovingBoxes plain = Check.of(text);
        MovingBoxes wide = new MovingBoxes();
        check.due("between all characters", Check.read(wide, spaced.toString()), 8);
        check.due("the same state", Check.all(wide), Check.all(plain));
        check.due("none but one", Check.read(new MovingBoxes(), " ".repeat(FULL - 1) + "0"), 0);
        check.due("one, and none but spaces", Check.read(new MovingBoxes(), "0" + " ".repeat(FULL - 1)), 0);
        check.due("nothing but spaces", Check.read(new MovingBoxes(), " ".repeat(FULL)), IAE);
    }

    private void noText() {
        check.about("Promise 1: No text");
        check.due("erase", new MovingBoxes().erase(), 0);
        check.due("read", Check.answer(() -> new MovingBoxes().read()), IAE);
        check.due("the first character", new MovingBoxes().write('0', 1), 1);
    }

    private void theRootAlone() {
        check.about("Promise 1: the state is the root alone");
        MovingBoxes boxes = new MovingBoxes();
        check.due("counts", Check.counts(boxes), "0,0,0,0,0");
        check.due("text", Check.text(boxes), "0");
        check.due("redexes", boxes.redexes(), 0);
        check.due("nothing to take", Check.answer(() -> boxes.take(0)), "throws.IndexOutOfBoundsException");
        check.due("no fair step", boxes.fair(30), 0);
        check.due("nothing explored", Check.explored(boxes), "0,0,0,-1,0");
        check.due("one state", boxes.explore(2, 0, 0), 1);
        check.due("which has no redex", Check.explored(boxes), "1,1,1,-1,0");
    }

    private void nothingIsKept() {
        check.about("Promise 1: nothing is kept");
        for (int slot = 0; slot < 3; slot++) {
            int asked = slot;
            check.due("slot " + slot, Check.answer(() -> new MovingBoxes().equal(asked)), NSEE);
        }
    }

    private void nIsNot1To8() {
        check.about("Promise 2: IllegalArgumentException, when n is not 1 .. 8");
        for (int n = -300; n <= 300; n++) {
            int many = n;
            Object due = n >= 1 && n <= 8 ? (Object) n : IAE;
            check.due("n = " + n, Check.answer(() -> new MovingBoxes().write(Check.eight("00000000"), many)), due);
        }
        for (int n : new int[] {0, 9, -1, -8, Integer.MIN_VALUE, Integer.MIN_VALUE + 1, Integer.MAX_VALUE, 1 << 16 | 1}) {
            twins.refused("n = " + n, () -> busy(20), boxes -> boxes.write(Check.eight("00000000"), n), IAE);
        }
    }

    private void oneIsNoCharacter() {
        check.about("Promise 2: IllegalArgumentException, when one of them is no character");
        for (int c = 0; c < 256; c++) {
            for (int n = 1; n <= 8; n++) {
                for (int at = 0; at < n; at++) {
                    int many = n;
                    long eight = Check.eight("00000000") & ~(255L << 8 * at) | (long) c << 8 * at;
                    Object due = c >= 32 && c <= 126 ? (Object) n : IAE;
                    check.due(c + " at " + at + " of " + n, Check.answer(() -> new MovingBoxes().write(eight, many)), due);
                }
            }
        }
        for (int c : new int[] {0, 31, 127, 128, 255}) {
            for (int at = 0; at < 8; at++) {
                long eight = Check.eight("0|0|0|0|") & ~(255L << 8 * at) | (long) c << 8 * at;
                twins.refused(c + " at " + at, () -> busy(20), boxes -> boxes.write(eight, 8), IAE);
            }
        }
    }

    private void onlyTheLowestBytes() {
        check.about("Promise 2: The n lowest bytes of eight come as characters behind the text, the lowest first");
        for (int n = 1; n < 8; n++) {
            for (int behind : new int[] {0, 31, 127, 128, 255}) {
                MovingBoxes boxes = new MovingBoxes();
                long eight = Check.eight("       0".substring(8 - n)) | (long) behind << 8 * n;
                check.due(n + ", and " + behind + " behind them", boxes.write(eight, n), n);
                check.due("and read", boxes.read(), 0);
            }
        }
        MovingBoxes order = new MovingBoxes();
        order.write(Check.eight("'b|a['c]"), 8);
        order.write(Check.eight("|'d"), 3);
        check.due("read", order.read(), 4);
        check.due("text", Check.text(order), "'b|'d|a['c]");
        check.due("the whole of a negative one", Check.answer(() -> new MovingBoxes().write(-1L, 8)), IAE);
        check.due("seven below a negative byte",
            Check.answer(() -> new MovingBoxes().write(0xFF30303030303030L, 7)), 7);
    }

    private void moreThan120() {
        check.about("Promise 2: IllegalStateException, when there would be more than 120");
        long zeros = Check.eight("00000000");
        for (int n = 1; n <= 8; n++) {
            int many = n;
            MovingBoxes boxes = with(" ".repeat(FULL - n));
            check.due(n + " up to 120", Check.answer(() -> boxes.write(zeros, many)), FULL);
            for (int over = 1; over <= n; over++) {
                int length = FULL - n + over;
                twins.refused(n + " up to " + (FULL + over), () -> busy(length), b -> b.write(zeros, many), ISE);
            }
        }
        MovingBoxes filled = with(" ".repeat(FULL - 3));
        check.due("four behind 117", Check.answer(() -> filled.write(Check.eight("0000"), 4)), ISE);
        check.due("three behind 117", Check.answer(() -> filled.write(Check.eight("'a|"), 3)), FULL);
        check.due("none of the four was written", Check.answer(filled::read), IAE);
    }

    private void wrongInBothWays() {
        check.about("Promise 2: IllegalArgumentException before IllegalStateException");
        twins.refused("no character behind 120", () -> busy(FULL), boxes -> boxes.write(31, 1), IAE);
        twins.refused("nine behind 120", () -> busy(FULL), boxes -> boxes.write(Check.eight("00000000"), 9), IAE);
        twins.refused("none behind 120", () -> busy(FULL), boxes -> boxes.write('0', 0), IAE);
    }

    private void erasingNothing() {
        check.about("Promise 3: how many characters it had");
        MovingBoxes boxes = with("0");
        check.due("one", boxes.erase(), 1);
        check.due("none", boxes.erase(), 0);
        check.due("none again", boxes.erase(), 0);
        check.due("written from the beginning", boxes.write('0', 1), 1);
    }

    private void erasingAFullText() {
        check.about("Promise 3: The text is gone (a state stays)");
        MovingBoxes boxes = busy(FULL);
        String before = Check.all(boxes);
        check.due("erase", boxes.erase(), FULL);
        check.due("the state stays", Check.all(boxes), before);
        Check.write(boxes, "'d|" + " ".repeat(FULL - 4));
        check.due("120 fit again", boxes.write('0', 1), FULL);
        check.due("and no more", Check.answer(() -> boxes.write('0', 1)), ISE);
        check.due("read", boxes.read(), 1);
        check.due("nothing of the old text", Check.text(boxes), "'d");
        boxes.erase();
        check.due("no text can't be read", Check.answer(boxes::read), IAE);
    }
}
