import java.util.function.Supplier;
import java.util.function.ToLongFunction;

/** Calls that are refused: each answers as due and changes nothing. */
final class Refusals {
    private final Due due;
    private final Supplier<Sky> way;
    private final String before;

    /** The calls are made on objects that came to be in one way. */
    Refusals(Due due, Supplier<Sky> way) {
        this.due = due;
        this.way = way;
        before = Told.of(way);
    }

    void is(String name, ToLongFunction<Sky> call, long want) {
        due.is(name, call.applyAsLong(way.get()), want);
        String after = Told.of(() -> {
            Sky sky = way.get();
            call.applyAsLong(sky);
            return sky;
        });
        due.isTrue(name + " changes nothing", after.equals(before));
    }
}
