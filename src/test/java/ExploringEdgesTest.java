/** What "Terms" says of exploring, and the boundary cases of promises 14 and 15, sentence by sentence. */
public final class ExploringEdgesTest {
    private static final String IAE = "throws.IllegalArgumentException";
    private static final String IOOBE = "throws.IndexOutOfBoundsException";
    private static final String BEFORE = "0,0,0,-1,0";

    private final Check check = new Check();
    private final Twins twins = new Twins(check);

    public static void main(String[] args) {
        ExploringEdgesTest test = new ExploringEdgesTest();
        test.allFoundWereGoneOver();
        test.asManyAsTheLimitSays();
        test.thoseBehindWereNotGoneOver();
        test.withLimit1NoneIs();
        test.equalToOneFoundBefore();
        test.redexesInTheirOrder();
        test.inTheOrderOfFinding();
        test.limitFrom1To30();
        test.namesFrom0To5();
        test.theStateItselfStays();
        test.statesWithoutARedex();
        test.theLeastDistance();
        test.shapesOfFoundStates();
        test.theGreatestDistance();
        test.beforeAnyExploring();
        test.theLatestExploring();
        test.exploredFrom0To4();
        test.check.end();
    }

    private void explores(String text, int limit, int outer, int inner, String due) {
        MovingBoxes boxes = Check.of(text);
        int found = boxes.explore(limit, outer, inner);
        check.due("explore " + limit + " of " + text, Check.explored(boxes), due);
        check.due("it tells how many", found, boxes.explored(0));
    }

    /** One state for each number of messages that are left. */
    private static String chain(int messages) {
        return "!?x.0" + "|'a".repeat(messages);
    }

    private static MovingBoxes busy() {
        MovingBoxes boxes = Check.of("a[!>b.'c|!<b.0]|b[0]");
        boxes.fair(3);
        boxes.keep(1);
        boxes.explore(9, 1, 0);
        return boxes;
    }

    private void allFoundWereGoneOver() {
        check.about("Terms: It ends when all found were gone over");
        for (int messages = 0; messages <= 28; messages++) {
            explores(chain(messages), 30, 0, 0, (messages + 1) + ",1,1,-1," + messages);
        }
    }

    private void asManyAsTheLimitSays() {
        check.about("Terms: or as soon as as many are found as the limit says");
        explores(chain(29), 30, 0, 0, "30,0,0,-1,29");
        explores(chain(30), 30, 0, 0, "30,0,0,-1,29");
        for (int messages = 1; messages <= 28; messages++) {
            explores(chain(messages), messages, 0, 0, messages + ",0,0,-1," + (messages - 1));
            explores(chain(messages), messages + 1, 0, 0, (messages + 1) + ",0,0,-1," + messages);
            explores(chain(messages), messages + 2, 0, 0, (messages + 1) + ",1,1,-1," + messages);
        }
    }

    private void thoseBehindWereNotGoneOver() {
        check.about("Terms: (the one that is gone over then, and those behind it, were not gone over)");
        String text = "?x.0|?y.^y.0|'a|a[0]";
        explores(text, 5, 0, 0, "4,1,2,-1,2");
        // The second state has no redex and was gone over; the third one leads to the fourth.
        explores(text, 4, 0, 0, "4,0,1,-1,2");
        // The third state is the last one that the first leads to: not even the first was gone over.
        explores(text, 3, 0, 0, "3,0,0,-1,1");
        explores(text, 2, 0, 0, "2,0,0,-1,1");
    }

    private void withLimit1NoneIs() {
        check.about("Terms: with limit 1 none is");
        explores("0", 1, 0, 0, "1,0,0,-1,0");
        explores("0", 2, 0, 0, "1,1,1,-1,0");
        explores(chain(3), 1, 0, 0, "1,0,0,-1,0");
        explores("a[b[0]]", 1, 0, 1, "1,0,0,0,0");
        MovingBoxes none = new MovingBoxes();
        check.due("a new object", none.explore(1, 5, 5), 1);
        check.due("not gone over", Check.explored(none), "1,0,0,-1,0");
    }

    private void equalToOneFoundBefore() {
        check.about("Terms: a state that is equal to none found before is found");
        explores("!?x.'x|'a", 30, 0, 0, "1,1,0,-1,0");
        explores("a[!>b.0|!<b.0]|b[0]", 30, 1, 0, "2,1,0,1,1");
        explores("?x.0|?y.0|'a|'a", 30, 0, 0, "4,1,1,-1,2");
        explores("?x.'x|?x.'x|'a", 30, 0, 0, "3,1,1,-1,2");
        explores("a[!>b.0|!<b.0]|b[0]", 2, 1, 0, "2,0,0,1,1");
        explores("a[!>b.0|!<b.0]|b[0]", 3, 1, 0, "2,1,0,1,1");
    }

    private void redexesInTheirOrder() {
        check.about("Terms: all its redexes in their order are taken, each from that state");
        String text = "a[>b.0]|c[>d.0]|b[0]|d[0]";
        explores(text, 2, 1, 0, "2,0,0,1,1");
        explores(text, 2, 3, 2, "2,0,0,-1,1");
        explores(text, 3, 3, 2, "3,0,0,1,1");
        explores(text, 4, 3, 2, "4,0,0,1,2");
        explores(text, 5, 3, 2, "4,1,1,1,2");
    }

    private void inTheOrderOfFinding() {
        check.about("Terms: EXPLORING goes over states in the order in which they are FOUND, the present one first");
        String text = "?x.?y.a[b[0]]|'c|'c|^d.e[f[0]]|d[0]";
        explores(text, 2, 4, 5, "2,0,0,-1,1");
        explores(text, 3, 4, 5, "3,0,0,1,1");
        explores(text, 3, 0, 1, "3,0,0,-1,1");
        // The second state's older guard comes first, and leads elsewhere.
        explores(text, 4, 0, 1, "4,0,0,-1,2");
        explores(text, 5, 0, 1, "5,0,0,2,2");
        explores(text, 30, 0, 1, "6,1,1,2,3");
    }

    private void limitFrom1To30() {
        check.about("Promise 14: at most limit (1 .. 30) states; IllegalArgumentException, when the limit is none of these");
        for (int limit = 1; limit <= 30; limit++) {
            check.due("limit " + limit, Check.of(chain(30)).explore(limit, 0, 0), limit);
        }
        for (int limit : new int[] {0, 31, -1, 32, 257, Integer.MIN_VALUE, Integer.MIN_VALUE + 1, Integer.MAX_VALUE}) {
            twins.refused("limit " + limit, ExploringEdgesTest::busy, boxes -> boxes.explore(limit, 0, 0), IAE);
            twins.refused("of a new object", MovingBoxes::new, boxes -> boxes.explore(limit, 0, 0), IAE);
        }
    }

    private void namesFrom0To5() {
        check.about("Promise 14: for two names (0 .. 5); IllegalArgumentException, when one is no name");
        for (int outer = 0; outer < 6; outer++) {
            for (int inner = 0; inner < 6; inner++) {
                String text = (char) ('a' + inner) + "[>" + (char) ('a' + outer) + ".0]|" + (char) ('a' + outer) + "[0]";
                for (int pair = 0; pair < 36; pair++) {
                    boolean shown = pair / 6 == outer && pair % 6 == inner;
                    explores(text, 30, pair / 6, pair % 6, shown ? "2,1,1,1,1" : "2,1,1,-1,1");
                }
            }
        }
        for (int name : new int[] {-1, 6, 7, 'a', Integer.MIN_VALUE, Integer.MAX_VALUE}) {
            for (int other : new int[] {0, 5, -1, 6}) {
                twins.refused("outer " + name, ExploringEdgesTest::busy, boxes -> boxes.explore(3, name, other), IAE);
                twins.refused("inner " + name, ExploringEdgesTest::busy, boxes -> boxes.explore(3, other, name), IAE);
            }
        }
        twins.refused("all wrong", ExploringEdgesTest::busy, boxes -> boxes.explore(0, -1, 6), IAE);
    }

    private static String present(MovingBoxes boxes) {
        return Check.text(boxes) + " " + Check.redexes(boxes) + " " + Check.counts(boxes) + " " + boxes.equal(1);
    }

    private void theStateItselfStays() {
        check.about("Promise 14: The state itself stays");
        for (int limit = 1; limit <= 30; limit++) {
            MovingBoxes boxes = busy();
            String before = present(boxes);
            boxes.explore(limit, 1, 0);
            check.due("limit " + limit, present(boxes), before);
            boxes.take(0);
            MovingBoxes other = busy();
            other.take(0);
            check.due("and goes on as without", present(boxes), present(other));
        }
    }

    private void statesWithoutARedex() {
        check.about("Promise 15: states gone over that have no redex (2)");
        explores("0", 30, 0, 0, "1,1,1,-1,0");
        explores("?x.0|?y.0|?z.0|'a", 30, 0, 0, "4,1,3,-1,1");
        // Two of the three behind the first one are gone over before the limit is reached.
        explores("?x.0|?y.0|?z.^z.0|'a|a[0]", 5, 0, 0, "5,0,2,-1,2");
        explores("?x.0|?y.0|?z.^z.0|'a|a[0]", 6, 0, 0, "5,1,3,-1,2");
        explores("!?x.'x|'a", 30, 0, 0, "1,1,0,-1,0");
    }

    private void theLeastDistance() {
        check.about("Promise 15: the least distance of a found state (gone over or not) that shows the shape, or NONE (3)");
        explores("a[b[0]]", 30, 0, 1, "1,1,1,0,0");
        explores("a[b[0]]", 30, 1, 0, "1,1,1,-1,0");
        explores("b[>a.0]|a[0]", 30, 0, 1, "2,1,1,1,1");
        explores("b[>a.<a.0]|a[0]", 30, 0, 1, "3,1,1,1,2");
        explores("a[b[!<a.0|!>a.0]]", 30, 0, 1, "2,1,0,0,1");
        explores("c[>b.<b.>a.0]|b[0]|a[0]", 30, 0, 2, "4,1,1,3,3");
    }

    private void shapesOfFoundStates() {
        check.about("Promise 15: (gone over or not)");
        explores("c[>b.<b.>a.0]|b[0]|a[0]", 5, 0, 2, "4,1,1,3,3");
        explores("c[>b.<b.>a.0]|b[0]|a[0]", 4, 0, 2, "4,0,0,3,3");
        explores("c[>b.<b.>a.0]|b[0]|a[0]", 3, 0, 2, "3,0,0,-1,2");
        explores("c[>b.<b.>a.0]|b[0]|a[0]", 2, 1, 2, "2,0,0,1,1");
        explores("c[>b.<b.>a.0]|b[0]|a[0]", 1, 1, 2, "1,0,0,-1,0");
    }

    private void theGreatestDistance() {
        check.about("Promise 15: the greatest distance (4)");
        explores("0", 30, 0, 0, "1,1,1,-1,0");
        explores("^a.^b.0|a[b[0]]", 30, 5, 5, "3,1,1,-1,2");
        explores("^a.0|^b.0|^c.0|a[0]|b[0]|c[0]", 30, 5, 5, "8,1,1,-1,3");
        explores("^a.0|^b.0|^c.0|a[0]|b[0]|c[0]", 8, 5, 5, "8,0,0,-1,3");
        explores("^a.0|^b.0|^c.0|a[0]|b[0]|c[0]", 7, 5, 5, "7,0,0,-1,2");
        explores("^a.0|^b.0|^c.0|a[0]|b[0]|c[0]", 4, 5, 5, "4,0,0,-1,1");
        explores(chain(30), 30, 5, 5, "30,0,0,-1,29");
    }

    private void beforeAnyExploring() {
        check.about("Promise 15: 0 for all but (3) before");
        MovingBoxes boxes = new MovingBoxes();
        check.due("a new object", Check.explored(boxes), BEFORE);
        Check.read(boxes, "a[b[0]]");
        check.due("read", Check.explored(boxes), BEFORE);
        check.due("refused", Check.answer(() -> boxes.explore(31, 0, 1)), IAE);
        check.due("none by what was refused", Check.explored(boxes), BEFORE);
        boxes.explore(30, 0, 1);
        check.due("explored", Check.explored(boxes), "1,1,1,0,0");
        boxes.read();
        check.due("read again", Check.explored(boxes), BEFORE);
        boxes.explore(30, 0, 1);
        boxes.erase();
        check.due("erasing leaves it", Check.explored(boxes), "1,1,1,0,0");
        check.due("reading in vain", Check.answer(boxes::read), IAE);
        check.due("gone as well", Check.explored(boxes), BEFORE);
    }

    private void theLatestExploring() {
        check.about("Promise 15: Of the latest exploring");
        MovingBoxes boxes = Check.of("b[>a.<a.0]|a[0]");
        boxes.explore(30, 0, 1);
        check.due("the first", Check.explored(boxes), "3,1,1,1,2");
        boxes.explore(2, 1, 0);
        check.due("the second", Check.explored(boxes), "2,0,0,-1,1");
        check.due("refused", Check.answer(() -> boxes.explore(0, 0, 1)), IAE);
        check.due("still the second", Check.explored(boxes), "2,0,0,-1,1");
        boxes.take(0);
        check.due("over a step", Check.explored(boxes), "2,0,0,-1,1");
        check.due("from the present state", boxes.explore(30, 0, 1), 2);
        check.due("the third", Check.explored(boxes), "2,1,1,0,1");
        boxes.fair(30);
        check.due("over fair steps", Check.explored(boxes), "2,1,1,0,1");
    }

    private void exploredFrom0To4() {
        check.about("Promise 15: IndexOutOfBoundsException, for another what");
        check.due("0 to 4", Check.explored(busy()), "9,0,0,0,8");
        for (int what : new int[] {-1, 5, 6, 256, Integer.MIN_VALUE, Integer.MAX_VALUE}) {
            twins.refused("explored(" + what + ")", ExploringEdgesTest::busy, boxes -> boxes.explored(what), IOOBE);
            twins.refused("of a new object", MovingBoxes::new, boxes -> boxes.explored(what), IOOBE);
        }
    }
}
