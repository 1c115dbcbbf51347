import com.sun.management.ThreadMXBean;
import java.lang.management.ManagementFactory;
import java.util.List;
import java.util.function.Consumer;
import java.util.function.Supplier;

/** A run of 512 calls, of the dearest ones too, stays in the room that all calls of a run have. */
public final class RoomTest {
    /** 7.3 million fields and elements; where each is counted as 4 bytes, no run that keeps to them needs more. */
    private static final long MOST_BYTES = 4L * 7_300_000;
    private static final int CALLS = 400;

    public static void main(String[] args) {
        ThreadMXBean threads = (ThreadMXBean) ManagementFactory.getThreadMXBean();
        List<Supplier<BindingPlanner>> makers = List.of(Planners::busy, Planners::full, TenBooks::made);
        List<Consumer<BindingPlanner>> calls = List.of(x -> x.leastCloth(1023), x -> x.strip(1023, 9),
            x -> x.clothWaste(1023), x -> x.setBlock(0, 0, 300), x -> x.set(0, 5), x -> x.make(0), x -> x.buy(0, 1, 1),
            x -> x.setPrice(0, 5, 5), x -> x.cost(0, 5), x -> x.pass(1), x -> x.append('8'), BindingPlanner::readBook,
            BindingPlanner::undo, BindingPlanner::save, BindingPlanner::restore);
        for (Supplier<BindingPlanner> maker : makers) {
            for (Consumer<BindingPlanner> call : calls) {
                long before = threads.getCurrentThreadAllocatedBytes();
                run(maker.get(), call);
                long bytes = threads.getCurrentThreadAllocatedBytes() - before;
                Checks.same(bytes + " bytes", true, bytes <= MOST_BYTES);
            }
        }
        Checks.finish();
    }

    private static void run(BindingPlanner x, Consumer<BindingPlanner> call) {
        for (int times = 0; times < CALLS; times++) {
            Checks.answer(() -> {
                call.accept(x);
                return "";
            });
        }
    }
}
