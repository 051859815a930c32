import java.util.function.Consumer;
import java.util.function.Supplier;

/** Counts and prints what the tests find. */
final class Check {
    static int passed = 0;
    static int failed = 0;

    private Check() {
    }

    static void same(String what, Object got, Object want) {
        if (want.equals(got)) {
            passed++;
        } else {
            failed++;
            System.out.println("wrong: " + what + " answered " + got + ", due is " + want);
        }
    }

    static void raises(String what, Class<? extends Exception> due, Runnable call) {
        same(what, nameOf(call), due.getSimpleName());
    }

    /** Checks that a call throws just what is due, and that the object then is like one that was not called. */
    static void refuses(String what, Supplier<GossipMembership> start, Class<? extends Exception> due,
            Consumer<GossipMembership> call) {
        GossipMembership called = start.get();
        raises(what, due, () -> call.accept(called));
        same(what + ", and then all", Reading.all(called), Reading.all(start.get()));
        GossipMembership restored = start.get();
        nameOf(() -> call.accept(restored));
        same(what + ", and what is saved", Reading.saved(restored), Reading.saved(start.get()));
    }

    /** The name of the exception that a call throws, or "nothing". */
    static String nameOf(Runnable call) {
        try {
            call.run();
            return "nothing";
        } catch (RuntimeException thrown) {
            return thrown.getClass().getSimpleName();
        }
    }
}
