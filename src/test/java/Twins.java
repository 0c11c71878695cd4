import java.util.function.Consumer;
import java.util.function.Supplier;
import java.util.function.ToLongFunction;

/** A call is made on one of two houses that were made alike: it does what is due, and changes nothing. */
final class Twins {
    private Twins() {
    }

    static void argument(Supplier<House> begin, String call, Consumer<House> run) {
        leavesAll(begin, call, "throws IllegalArgumentException", answering(run));
    }

    static void state(Supplier<House> begin, String call, Consumer<House> run) {
        leavesAll(begin, call, "throws IllegalStateException", answering(run));
    }

    static void none(Supplier<House> begin, String call, ToLongFunction<House> run) {
        answers(begin, call, -1, run);
    }

    static void answers(Supplier<House> begin, String call, long due, ToLongFunction<House> run) {
        leavesAll(begin, call, Long.toString(due), run);
    }

    private static void leavesAll(Supplier<House> begin, String call, String due, ToLongFunction<House> run) {
        House touched = begin.get();
        House untouched = begin.get();
        Check.same(call, due, Probe.outcome(() -> run.applyAsLong(touched)));
        Check.same("after " + call, Probe.of(untouched), Probe.of(touched));
    }

    private static ToLongFunction<House> answering(Consumer<House> run) {
        return house -> {
            run.accept(house);
            return 0;
        };
    }
}
