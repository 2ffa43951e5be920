import java.util.HashSet;
import java.util.List;
import java.util.Set;
import java.util.TreeSet;
import java.util.function.Consumer;
import java.util.function.Supplier;

/** The named cases of one test program; each has objects of its own, and all are run though one fails. */
final class Cases {
    /** A call with the one number that a case is about. */
    interface CallWith {
        void call(ChannelRows x, int number);
    }

    private final Set<String> names = new HashSet<>();
    private int failed = 0;

    void test(String name, Consumer<Check> body) {
        Check check = new Check();
        if (!names.add(name)) {
            check.fails("a second case of this name");
        }
        try {
            body.accept(check);
        } catch (RuntimeException e) {
            check.fails("threw " + e + " at " + List.of(e.getStackTrace()));
        }
        if (!check.faults().isEmpty()) {
            failed++;
            System.out.println("case '" + name + "':");
            check.faults().forEach(fault -> System.out.println("  " + fault));
        }
    }

    /** The call is refused, and all that was before stands as it was. */
    void refused(String name, Class<? extends RuntimeException> due, Supplier<ChannelRows> made,
            Consumer<ChannelRows> call) {
        test(name, check -> Standing.isUntouched(check, due, made, call));
    }

    /**
     * A number at the first and the last value that is allowed, and at the ones beside them: a case
     * for each, on an object of its own.
     */
    void edges(String number, int first, int last, Class<? extends RuntimeException> due,
            Supplier<ChannelRows> made, CallWith call) {
        allowed(number, first, last, made, call);
        refusedBelow(number, first, due, made, call);
        refusedAbove(number, last, due, made, call);
    }

    void allowed(String number, int first, int last, Supplier<ChannelRows> made, CallWith call) {
        for (int value : new TreeSet<>(List.of(first, first + 1, last - 1, last))) {
            if (value >= first && value <= last) {
                test(number + " " + value + " is allowed", check -> {
                    call.call(made.get(), value);
                    check.due("it went through", true, true);
                });
            }
        }
    }

    void refusedBelow(String number, int first, Class<? extends RuntimeException> due,
            Supplier<ChannelRows> made, CallWith call) {
        for (int value : new int[] {first - 1, first - 1000, Integer.MIN_VALUE}) {
            refused(number + " " + value + " is too small", due, made, x -> call.call(x, value));
        }
    }

    void refusedAbove(String number, int last, Class<? extends RuntimeException> due,
            Supplier<ChannelRows> made, CallWith call) {
        for (int value : new int[] {last + 1, last + 65536, Integer.MAX_VALUE}) {
            refused(number + " " + value + " is too large", due, made, x -> call.call(x, value));
        }
    }

    void close() {
        System.out.println(names.size() + " cases, " + failed + " failed");
        if (failed != 0 || names.isEmpty()) {
            System.exit(1);
        }
    }
}
