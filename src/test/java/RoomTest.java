import java.lang.management.ManagementFactory;

/** All calls of a run live in one room: an object is made once, and its calls make next to nothing. */
public final class RoomTest {
    private static final int CALLS = 512;
    /** A row element takes one to four bytes, so this is far below the room's 7.3 million elements. */
    private static final long BYTES_FOR_AN_OBJECT = 400_000;
    private static final long BYTES_FOR_ALL_CALLS = 100_000;

    private final Check check = new Check();

    public static void main(String[] args) {
        RoomTest test = new RoomTest();
        test.measured();
        test.measured();
        test.manyRedexes();
        test.check.end();
    }

    private static long bytes() {
        return ((com.sun.management.ThreadMXBean) ManagementFactory.getThreadMXBean()).getCurrentThreadAllocatedBytes();
    }

    private void measured() {
        long before = bytes();
        MovingBoxes boxes = new MovingBoxes();
        long made = bytes();
        check.due("an object's own room", made - before < BYTES_FOR_AN_OBJECT, true);
        Check.write(boxes, "a[>b.<b.!>c.('d|e[0])]|b[!?x.(x[0]|'x)|'c|'d]|c[!^e.0]|!?y.y['y]|'a|'f");
        boxes.read();
        long start = bytes();
        for (int call = 20; call < CALLS; call += 4) {
            boxes.read();
            boxes.fair(6);
            boxes.keep(call % 3);
            boxes.explore(30, 1, 2);
        }
        check.due("the room of all calls", bytes() - start < BYTES_FOR_ALL_CALLS, true);
    }

    /** Nearly as many redexes as a text of 240 characters has room for. */
    private void manyRedexes() {
        MovingBoxes boxes = Check.of("!?x.('x|'x|?y.0)|'a");
        for (int i = 0; i < 27; i++) {
            boxes.take(0);
        }
        check.due("counts", Check.counts(boxes), "0,28,28,83,27");
        check.due("redexes", boxes.redexes(), 28 * 28);
        check.due("the last ones", boxes.redex(783, 1) + "," + boxes.redex(783, 2), "82,81");
        // From there inputs and messages go in pairs, down to the replica with one message.
        check.due("found", boxes.explore(30, 0, 0), 28);
        check.due("explored", Check.explored(boxes), "28,1,0,-1,27");
    }
}
