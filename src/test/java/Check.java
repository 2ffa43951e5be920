import java.util.ArrayList;
import java.util.List;
import java.util.function.IntSupplier;

/** Collects the answers of one case that are not as due. */
final class Check {
    static final Class<? extends RuntimeException> ARGUMENT = IllegalArgumentException.class;
    static final Class<? extends RuntimeException> INDEX = IndexOutOfBoundsException.class;
    static final Class<? extends RuntimeException> ARRAY_INDEX = ArrayIndexOutOfBoundsException.class;
    static final Class<? extends RuntimeException> STATE = IllegalStateException.class;
    static final Class<? extends RuntimeException> UNSUPPORTED = UnsupportedOperationException.class;
    static final Class<? extends RuntimeException> NEGATIVE_SIZE = NegativeArraySizeException.class;

    private final List<String> wrong = new ArrayList<>();
    private int asked = 0;

    void due(String what, Object want, Object got) {
        asked++;
        if (!want.equals(got)) {
            wrong.add(what + " answered " + got + ", due is " + want);
        }
    }

    /** The class must be the very one that the document names, not one below it. */
    void refused(String what, Class<? extends RuntimeException> want, IntSupplier call) {
        asked++;
        try {
            int got = call.getAsInt();
            wrong.add(what + " answered " + got + ", due is " + want.getSimpleName());
        } catch (RuntimeException e) {
            if (e.getClass() != want) {
                wrong.add(what + " threw " + e + ", due is " + want.getSimpleName());
            } else if (isOfTheMachine(e)) {
                wrong.add(what + " let the machine throw " + e);
            }
        }
    }

    void refused(String what, Class<? extends RuntimeException> want, Runnable call) {
        refused(what, want, () -> {
            call.run();
            return 0;
        });
    }

    /** By its class, or by the text that the machine and the library write into it. */
    static boolean isOfTheMachine(RuntimeException e) {
        String text = e.getMessage();
        return e instanceof NullPointerException || e instanceof ClassCastException
                || e instanceof ArithmeticException || e instanceof ArrayStoreException
                || (text != null && text.matches("-?[0-9]+|.*[0-9]+ out of bounds for .*|.*arraycopy.*"));
    }

    void onInSlots(ChannelRows x, int channel, int from, int... messages) {
        for (int i = 0; i < messages.length; i++) {
            due("on(" + channel + ", " + (from + i) + ")", messages[i], x.on(channel, from + i));
        }
    }

    void heardInSlots(ChannelRows x, int unit, int from, int... heard) {
        for (int i = 0; i < heard.length; i++) {
            due("hears(" + unit + ", " + (from + i) + ")", heard[i], x.hears(unit, from + i));
        }
    }

    /** These units, in this order, and no more. */
    void unheardBy(ChannelRows x, int message, int... units) {
        for (int i = 0; i < units.length; i++) {
            due("unheard(" + message + ", " + i + ")", units[i], x.unheard(message, i));
        }
        due("unheard(" + message + ", " + units.length + ")", -1, x.unheard(message, units.length));
    }

    void endedAs(ChannelRows x, int message, int how, int slots) {
        due("ended(" + message + ")", how, x.ended(message));
        due("length(" + message + ")", slots, x.length(message));
    }

    /** A case that asks nothing holds nothing. */
    List<String> faults() {
        return asked == 0 && wrong.isEmpty() ? List.of("nothing was asked") : wrong;
    }

    void fails(String text) {
        wrong.add(text);
    }
}
