import java.util.Map;
import java.util.Random;
import java.util.TreeMap;
import java.util.stream.IntStream;

/** Many runs of random calls (always the same ones), each answer held against the model's. */
public final class ModelTest {
    private static final int RUNS = 1500;

    private final Random random;
    private final Check check;
    private final Map<String, Integer> seen;
    private final StringBuilder calls = new StringBuilder();
    private final Model model = new Model();
    private final MovingBoxes boxes = new MovingBoxes();

    private ModelTest(int run, Check check, Map<String, Integer> seen) {
        this.random = new Random(run);
        this.check = check;
        this.seen = seen;
    }

    public static void main(String[] args) {
        Check check = new Check();
        Map<String, Integer> seen = new TreeMap<>();
        int runs = args.length > 0 ? Integer.parseInt(args[0]) : RUNS;
        int first = args.length > 1 ? Integer.parseInt(args[1]) : 0;
        for (int run = first; run < first + runs; run++) {
            new ModelTest(run, check, seen).run();
        }
        System.out.println(seen);
        for (String event : new String[] {
            "read answers", "read throws.IllegalArgumentException", "read throws.IllegalStateException",
            "read throws.UnsupportedOperationException", "take answers", "take throws.UnsupportedOperationException",
            "fair answers", "fair throws.UnsupportedOperationException", "explore all", "explore cut",
            "explore shape", "equal true", "equal false", "shows true", "shows false",
            "20 places taken", "21 places refused", "40 guards taken", "41 guards refused",
            "30 messages taken", "31 messages refused", "240 characters taken", "241 characters refused"}) {
            check.due("the runs have: " + event, seen.getOrDefault(event, 0) >= 5, true);
        }
        check.end();
    }

    private void run() {
        int left = 60 + random.nextInt(100);
        while (left-- > 0) {
            switch (random.nextInt(14)) {
                case 0: case 1: writeAndRead(); break;
                case 2: case 3: case 4: case 5: take(); break;
                case 6: case 7: fair(); break;
                case 8: explore(); break;
                case 9: keepAndCompare(); break;
                case 10: shows(); break;
                case 11: wrongCalls(); break;
                case 12: blindWrite(); break;
                default: askAll();
            }
        }
        askAll();
        growToTheLimits();
    }

    /** Up to the limits by fair steps, and then all that can be taken there. */
    private void growToTheLimits() {
        due("erase()", boxes.erase(), model.erase());
        readText(Texts.growing(random));
        for (int times = 0; times < 4; times++) {
            int n = 1 + random.nextInt(30);
            due("fair(" + n + ")", Check.answer(() -> boxes.fair(n)), model.fair(n));
            noteLimits();
        }
        for (int times = 0; times < 8; times++) {
            take();
            noteLimits();
        }
        askAll();
        explore();
    }

    /** Whether the latest step was at a limit, or over it by one and by nothing else. */
    private void noteLimits() {
        String[] limits = {"20 places", "21 places", "40 guards", "41 guards", "30 messages", "31 messages",
            "240 characters", "241 characters"};
        int[] tried = model.tried();
        for (int i = 0; i < 4; i++) {
            int other = i;
            boolean alone = IntStream.range(0, 4).allMatch(j -> j == other || tried[j] <= 0);
            if (alone && (tried[i] == 0 || tried[i] == 1)) {
                seen.merge(limits[2 * i + tried[i]] + (tried[i] == 0 ? " taken" : " refused"), 1, Integer::sum);
            }
        }
    }

    private Object due(String call, Object got, Object want) {
        calls.append(call).append(" -> ").append(got).append("; ");
        Object plain = want instanceof Character ? (Object) (int) (Character) want : want;
        if (!plain.equals(got)) {
            System.out.println(calls);
        }
        check.due(call, got, plain);
        return got;
    }

    private void note(String call, Object got) {
        boolean told = got instanceof String || got instanceof Boolean;
        seen.merge(call + " " + (told ? got : "answers"), 1, Integer::sum);
    }

    private void writeAndRead() {
        due("erase()", boxes.erase(), model.erase());
        int sort = random.nextInt(8);
        readText(sort == 0 ? Texts.crowded(random) : sort < 4 ? Texts.any(random) : Texts.lively(random));
        if (random.nextInt(3) == 0) {
            askAll();
        }
    }

    private void readText(String text) {
        for (int at = 0; at < text.length(); at += 8) {
            int n = Math.min(8, text.length() - at);
            write(Check.eight(text.substring(at, at + n)), n);
        }
        calls.append(text).append("; ");
        note("read", due("read()", Check.answer(boxes::read), model.read()));
    }

    private void write(long eight, int n) {
        due("write(" + eight + ", " + n + ")", Check.answer(() -> boxes.write(eight, n)), model.write(eight, n));
    }

    private void blindWrite() {
        if (random.nextBoolean()) {
            write(random.nextLong(), random.nextInt(12) - 1);
        } else {
            write(Check.eight("|0 | 'a ") ^ (random.nextInt(4) == 0 ? 128L << 8 * random.nextInt(8) : 0), random.nextInt(9));
        }
    }

    private void take() {
        int many = boxes.redexes();
        int k = many == 0 || random.nextInt(10) == 0 ? random.nextInt(many + 3) - 1 : random.nextInt(many);
        note("take", due("take(" + k + ")", Check.answer(() -> boxes.take(k)), model.take(k)));
        askRedexes();
    }

    private void fair() {
        int n = random.nextInt(4) == 0 ? random.nextInt(34) - 1 : 1 + random.nextInt(4);
        note("fair", due("fair(" + n + ")", Check.answer(() -> boxes.fair(n)), model.fair(n)));
        askRedexes();
    }

    private void explore() {
        int limit = random.nextInt(3) == 0 ? 30 : random.nextInt(33) - 1;
        int outer = random.nextInt(10) == 0 ? random.nextInt(9) - 1 : random.nextInt(3);
        int inner = random.nextInt(10) == 0 ? random.nextInt(9) - 1 : random.nextInt(3);
        String call = "explore(" + limit + ", " + outer + ", " + inner + ")";
        due(call, Check.answer(() -> boxes.explore(limit, outer, inner)), model.explore(limit, outer, inner));
        seen.merge(boxes.explored(1) == 1 ? "explore all" : "explore cut", 1, Integer::sum);
        seen.merge(boxes.explored(3) > 0 ? "explore shape" : "explore no shape", 1, Integer::sum);
        askExplored();
    }

    private void keepAndCompare() {
        int kept = random.nextInt(5) - 1;
        int slot = random.nextInt(5) - 1;
        if (random.nextBoolean()) {
            due("keep(" + kept + ")", Check.answer(() -> boxes.keep(kept)), model.keep(kept));
        }
        note("equal", due("equal(" + slot + ")", Check.answer(() -> boxes.equal(slot)), model.equal(slot)));
    }

    private void shows() {
        int outer = random.nextInt(8) - 1;
        int inner = random.nextInt(8) - 1;
        String call = "shows(" + outer + ", " + inner + ")";
        note("shows", due(call, Check.answer(() -> boxes.shows(outer, inner)), model.shows(outer, inner)));
    }

    private void wrongCalls() {
        int i = random.nextInt();
        due("letter(" + i + ")", Check.answer(() -> boxes.letter(i)), model.letter(i));
        due("redex(" + i + ", 0)", Check.answer(() -> boxes.redex(i, 0)), model.redex(i, 0));
        due("redex(0, " + i + ")", Check.answer(() -> boxes.redex(0, i)), model.redex(0, i));
        due("take(" + i + ")", Check.answer(() -> boxes.take(i)), model.take(i));
        due("count(" + i + ")", Check.answer(() -> boxes.count(i)), model.count(i));
        due("explored(" + i + ")", Check.answer(() -> boxes.explored(i)), model.explored(i));
        due("keep(" + i + ")", Check.answer(() -> boxes.keep(i)), model.keep(i));
        due("fair(" + i + ")", Check.answer(() -> boxes.fair(i)), model.fair(i));
    }

    private void askAll() {
        due("text", Check.text(boxes), model.told());
        for (int what = -1; what < 6; what++) {
            int asked = what;
            due("count(" + what + ")", Check.answer(() -> boxes.count(asked)), model.count(asked));
        }
        askRedexes();
        askExplored();
    }

    private void askRedexes() {
        due("redexes()", boxes.redexes(), model.redexes());
        for (int k = 0; k < Math.min(6, boxes.redexes()); k++) {
            int asked = random.nextInt(boxes.redexes());
            for (int what = 0; what < 4; what++) {
                int kind = what;
                due("redex(" + asked + ", " + what + ")", Check.answer(() -> boxes.redex(asked, kind)), model.redex(asked, kind));
            }
        }
    }

    private void askExplored() {
        for (int what = -1; what < 6; what++) {
            int asked = what;
            due("explored(" + what + ")", Check.answer(() -> boxes.explored(asked)), model.explored(asked));
        }
    }
}
