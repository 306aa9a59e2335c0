import java.util.function.Function;
import java.util.function.Supplier;

/**
 * "A call that throws changes nothing": of two objects with the same calls behind them one gets a call
 * more, which is refused; from then on both must answer alike to whatever they are asked.
 */
final class Twins {
    private final Check check;

    Twins(Check check) {
        this.check = check;
    }

    void refused(String what, Supplier<MovingBoxes> maker, Function<MovingBoxes, Object> call, String exception) {
        MovingBoxes called = maker.get();
        MovingBoxes left = maker.get();
        check.due(what, Check.answer(() -> call.apply(called)), exception);
        check.due(what + ", and later", later(called), later(left));
    }

    /** All that later calls tell of the state, of what is kept and explored, and of the text. */
    private static String later(MovingBoxes boxes) {
        StringBuilder told = new StringBuilder(Check.all(boxes));
        told.append(" take ").append(Check.answer(() -> boxes.take(boxes.redexes() - 1))).append(' ').append(Check.all(boxes));
        told.append(" fair ").append(Check.answer(() -> boxes.fair(2))).append(' ').append(Check.all(boxes));
        told.append(" explore ").append(boxes.explore(7, 0, 1)).append(' ').append(Check.all(boxes));
        told.append(" write ").append(Check.answer(() -> boxes.write(' ', 1)));
        told.append(" read ").append(Check.answer(boxes::read)).append(' ').append(Check.all(boxes));
        told.append(" erase ").append(boxes.erase());
        return told.toString();
    }
}
