import java.util.Collections;
import java.util.concurrent.Callable;

/** Counts answers that are not as due, and names the exceptions that calls throw. */
final class Check {
    private int wrong;
    private int asked;
    private String about = "";

    /** The answers from here on are about this sentence of the document. */
    void about(String sentence) {
        about = sentence + " -- ";
    }

    void due(String what, Object got, Object want) {
        asked++;
        if (!want.equals(got)) {
            wrong++;
            System.out.println(about + what + ": answered " + got + ", due is " + want);
        }
    }

    /** What a call answers, or throws.X when it throws an X. */
    static Object answer(Callable<Object> call) {
        try {
            return call.call();
        } catch (Exception e) {
            return "throws." + e.getClass().getSimpleName();
        }
    }

    /** Writes a whole text, eight characters at a time. */
    static void write(MovingBoxes boxes, String text) {
        for (int at = 0; at < text.length(); at += 8) {
            int n = Math.min(8, text.length() - at);
            boxes.write(eight(text.substring(at, at + n)), n);
        }
    }

    /** So many parts of one kind, with | between. */
    static String times(int many, String part) {
        return String.join("|", Collections.nCopies(many, part));
    }

    static long eight(String characters) {
        long eight = 0;
        for (int i = characters.length() - 1; i >= 0; i--) {
            eight = eight << 8 | characters.charAt(i);
        }
        return eight;
    }

    /** What read() answers to this text in place of the one before. */
    static Object read(MovingBoxes boxes, String text) {
        boxes.erase();
        write(boxes, text);
        return answer(boxes::read);
    }

    /** A new object that has read this text. */
    static MovingBoxes of(String text) {
        MovingBoxes boxes = new MovingBoxes();
        write(boxes, text);
        boxes.read();
        return boxes;
    }

    static String text(MovingBoxes boxes) {
        StringBuilder text = new StringBuilder();
        for (int i = 0; boxes.letter(i) != MovingBoxes.NONE; i++) {
            text.append((char) boxes.letter(i));
        }
        return text.toString();
    }

    /** All redexes: kind, guard, other and age of each. */
    static String redexes(MovingBoxes boxes) {
        StringBuilder all = new StringBuilder();
        for (int k = 0; k < boxes.redexes(); k++) {
            for (int what = 0; what < 4; what++) {
                all.append(what == 0 ? "" : ",").append(boxes.redex(k, what));
            }
            all.append(' ');
        }
        return all.toString().trim();
    }

    static String counts(MovingBoxes boxes) {
        StringBuilder all = new StringBuilder();
        for (int what = 0; what < 5; what++) {
            all.append(what == 0 ? "" : ",").append(boxes.count(what));
        }
        return all.toString();
    }

    static String explored(MovingBoxes boxes) {
        StringBuilder all = new StringBuilder();
        for (int what = 0; what < 5; what++) {
            all.append(what == 0 ? "" : ",").append(boxes.explored(what));
        }
        return all.toString();
    }

    /** All that can be asked of an object without changing it. */
    static String all(MovingBoxes boxes) {
        StringBuilder all = new StringBuilder();
        all.append(text(boxes)).append(" / ").append(redexes(boxes)).append(" / ").append(counts(boxes));
        all.append(" / ").append(explored(boxes));
        for (int slot = 0; slot < 3; slot++) {
            int asked = slot;
            all.append(" / ").append(answer(() -> boxes.equal(asked)));
        }
        return all.toString();
    }

    void end() {
        System.out.println(asked + " answers looked at, " + wrong + " not as due");
        if (wrong != 0 || asked == 0) {
            System.exit(1);
        }
    }
}
