/** Promises 14 and 15: explore, explored. */
public final class ExploringTest {
    private static final String IAE = "throws.IllegalArgumentException";
    private static final String IOOBE = "throws.IndexOutOfBoundsException";

    private final Check check = new Check();

    public static void main(String[] args) {
        ExploringTest test = new ExploringTest();
        test.smallOnes();
        test.equalStatesCountOnce();
        test.theLimit();
        test.theShape();
        test.tooMuchLeadsNowhere();
        test.theStateStays();
        test.theLatestOne();
        test.wrongCalls();
        test.check.end();
    }

    private void explores(String text, int limit, int outer, int inner, String due) {
        MovingBoxes boxes = Check.of(text);
        int found = boxes.explore(limit, outer, inner);
        check.due("explore " + limit + " of " + text, Check.explored(boxes), due);
        check.due("it tells how many", found, boxes.explored(0));
    }

    private void smallOnes() {
        explores("0", 30, 0, 0, "1,1,1,-1,0");
        explores("^a.0|a[0]", 30, 0, 0, "2,1,1,-1,1");
        explores("^a.^b.0|a[b[0]]", 30, 0, 1, "3,1,1,0,2");
        explores("a[>b.0]|b[>a.0]", 30, 0, 1, "3,1,2,1,1");
        explores("a[!>b.0|!<b.0]|b[0]", 30, 1, 0, "2,1,0,1,1");
    }

    private void equalStatesCountOnce() {
        explores("?x.0|'a|'a", 30, 0, 0, "2,1,1,-1,1");
        explores("?x.0|?y.0|'a", 30, 0, 0, "3,1,2,-1,1");
        explores("?x.'x|?x.'x|'a", 30, 0, 0, "3,1,1,-1,2");
        explores("!?x.'x|'a|'b|'c", 30, 0, 0, "1,1,0,-1,0");
        explores("^a.0|^b.0|a[0]|b[0]", 30, 0, 0, "4,1,1,-1,2");
    }

    private void theLimit() {
        String text = "^a.0|^b.0|a[0]|b[0]";
        explores(text, 5, 0, 0, "4,1,1,-1,2");
        explores(text, 4, 0, 0, "4,0,0,-1,2");
        explores(text, 3, 0, 0, "3,0,0,-1,1");
        explores(text, 2, 0, 0, "2,0,0,-1,1");
        explores(text, 1, 0, 0, "1,0,0,-1,0");
        explores("0", 1, 0, 0, "1,0,0,-1,0");
        explores("0", 2, 0, 0, "1,1,1,-1,0");
        explores("!?x.('x|a[0])|'a", 30, 0, 0, "21,1,0,-1,20");
        explores("!?x.('x|>a.0)|'a", 30, 0, 0, "30,0,0,-1,29");
        // The limit comes with the last redex of the first state, which was not gone over then.
        explores("?x.0|?y.^y.0|'a", 3, 0, 0, "3,0,0,-1,1");
        // The second state is gone over, and has no redex; the third one leads to the limit.
        explores("?x.0|?y.^y.0|'a|a[0]", 4, 0, 0, "4,0,1,-1,2");
    }

    private void theShape() {
        explores("c[>b.>a.0]|b[0]|a[0]", 30, 1, 2, "2,1,1,1,1");
        explores("c[>b.<b.>a.0]|b[0]|a[0]", 30, 0, 2, "4,1,1,3,3");
        explores("c[>b.<b.>a.0]|b[0]|a[0]", 30, 2, 0, "4,1,1,-1,3");
        explores("c[>b.<b.>a.0]|b[0]|a[0]", 4, 0, 2, "4,0,0,3,3");
        explores("c[>b.<b.>a.0]|b[0]|a[0]", 3, 0, 2, "3,0,0,-1,2");
        explores("a[c[0]]", 1, 0, 2, "1,0,0,0,0");
        explores("f[>e.0]|e[0]", 30, 4, 5, "2,1,1,1,1");
    }

    private void tooMuchLeadsNowhere() {
        MovingBoxes boxes = Check.of("!?x.('x|'x)|'a");
        boxes.fair(29);
        check.due("full", boxes.count(2), 30);
        check.due("one state", boxes.explore(30, 0, 0), 1);
        check.due("with redexes", Check.explored(boxes), "1,1,0,-1,0");
    }

    private void theStateStays() {
        MovingBoxes boxes = Check.of("a[>b.<b.>c.0]|b[!?x.x[0]|'c|'d]|c[0]");
        boxes.take(1);
        boxes.keep(1);
        String before = Check.text(boxes) + Check.redexes(boxes) + Check.counts(boxes);
        boxes.explore(30, 0, 0);
        check.due("as before", Check.text(boxes) + Check.redexes(boxes) + Check.counts(boxes), before);
        check.due("kept", boxes.equal(1), true);
        boxes.explore(7, 2, 0);
        check.due("as before again", Check.text(boxes) + Check.redexes(boxes) + Check.counts(boxes), before);
        boxes.take(0);
        check.due("a step as usual", Check.text(boxes), "b[!?x.x[0]|'d|a[<b.>c.0]|c[0]]|c[0]");
    }

    private void theLatestOne() {
        MovingBoxes boxes = Check.of("^a.0|a[0]");
        check.due("before", Check.explored(boxes), "0,0,0,-1,0");
        boxes.explore(30, 0, 0);
        boxes.take(0);
        check.due("it stays over steps", Check.explored(boxes), "2,1,1,-1,1");
        check.due("from the present state", boxes.explore(30, 0, 0), 1);
        check.due("the latest", Check.explored(boxes), "1,1,1,-1,0");
        boxes.read();
        check.due("gone by reading", Check.explored(boxes), "0,0,0,-1,0");
        boxes.explore(30, 0, 0);
        Check.read(boxes, "$");
        check.due("gone by reading in vain", Check.explored(boxes), "0,0,0,-1,0");
    }

    private void wrongCalls() {
        MovingBoxes boxes = Check.of("^a.0|a[0]");
        boxes.explore(30, 0, 0);
        String before = Check.all(boxes);
        for (int limit : new int[] {0, -1, 31, Integer.MIN_VALUE, Integer.MAX_VALUE}) {
            check.due("limit " + limit, Check.answer(() -> boxes.explore(limit, 0, 0)), IAE);
        }
        for (int name : new int[] {-1, 6, 'a', Integer.MIN_VALUE, Integer.MAX_VALUE}) {
            check.due("outer " + name, Check.answer(() -> boxes.explore(3, name, 0)), IAE);
            check.due("inner " + name, Check.answer(() -> boxes.explore(3, 0, name)), IAE);
        }
        for (int what : new int[] {-1, 5, Integer.MIN_VALUE, Integer.MAX_VALUE}) {
            check.due("what " + what, Check.answer(() -> boxes.explored(what)), IOOBE);
        }
        check.due("nothing has changed", Check.all(boxes), before);
    }
}
