import java.util.NoSuchElementException;
import java.util.function.Consumer;
import java.util.function.Supplier;

/** Calls that throw and leave all as it was. */
final class Refusals {
    static final Class<IndexOutOfBoundsException> INDEX = IndexOutOfBoundsException.class;
    static final Class<IllegalArgumentException> ARGUMENT = IllegalArgumentException.class;
    static final Class<IllegalStateException> STATE = IllegalStateException.class;
    static final Class<UnsupportedOperationException> UNSUPPORTED = UnsupportedOperationException.class;
    static final Class<NoSuchElementException> MISSING = NoSuchElementException.class;
    static final Class<ArithmeticException> ARITHMETIC = ArithmeticException.class;
    static final int LEAST = Integer.MIN_VALUE;
    static final int MOST = Integer.MAX_VALUE;

    private Refusals() {
    }

    /** Each call, of a planner of its own, must throw what is due and leave the whole state. */
    @SafeVarargs
    static void leaves(Class<? extends RuntimeException> due, Supplier<BindingPlanner> maker,
            Consumer<BindingPlanner>... calls) {
        String before = Told.whole(maker);
        for (int each = 0; each < calls.length; each++) {
            Consumer<BindingPlanner> call = calls[each];
            Checks.thrown("call " + each, due, () -> call.accept(maker.get()));
            Checks.same("the state after call " + each, before, Told.whole(() -> after(maker.get(), call)));
        }
    }

    private static BindingPlanner after(BindingPlanner x, Consumer<BindingPlanner> call) {
        Checks.answer(() -> {
            call.accept(x);
            return "";
        });
        return x;
    }
}
