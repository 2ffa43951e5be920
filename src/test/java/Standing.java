import java.util.ArrayList;
import java.util.List;
import java.util.function.Consumer;
import java.util.function.Function;
import java.util.function.IntSupplier;
import java.util.function.Supplier;

/**
 * Shows that a refused call changed nothing: of two objects made alike one has the refused call, and
 * then both must answer alike. Each part of the questions has twins of its own, so that no object
 * comes near its 512th call.
 */
final class Standing {
    private static final int[] SLOTS = {0, 1, 2, 3, 4, 5, 6, 7, 8, 9, 998, 999, 1000};
    private static final int[] UNITS = {0, 1, 2, 3, 4, 18, 19, 20};
    private static final int CHANNELS = 6;
    private static final int MESSAGES = 61;

    private Standing() {
    }

    static void isUntouched(Check check, Class<? extends RuntimeException> due,
            Supplier<ChannelRows> made, Consumer<ChannelRows> call) {
        List<Function<ChannelRows, List<String>>> parts =
                List.of(Standing::air, Standing::ends, Standing::listeners, Standing::next);
        for (Function<ChannelRows, List<String>> part : parts) {
            ChannelRows called = made.get();
            check.refused("the call", due, () -> call.accept(called));
            compare(check, part.apply(made.get()), part.apply(called));
        }
    }

    /** All answers that are to be had in one go; each of the two is then beyond use. */
    static void areAlike(Check check, ChannelRows want, ChannelRows got) {
        compare(check, air(want), air(got));
        compare(check, next(want), next(got));
    }

    private static void compare(Check check, List<String> want, List<String> got) {
        for (int i = 0; i < want.size(); i++) {
            check.due("behind the call", want.get(i), got.get(i));
        }
    }

    /** What is on, who hears it, how much is used. */
    private static List<String> air(ChannelRows x) {
        List<String> told = new ArrayList<>();
        for (int slot : SLOTS) {
            for (int c = 0; c < CHANNELS; c++) {
                int channel = c;
                told.add(answer("on " + c + " " + slot, () -> x.on(channel, slot)));
            }
            for (int unit : UNITS) {
                told.add(answer("hears " + unit + " " + slot, () -> x.hears(unit, slot)));
            }
            told.add(answer("used " + slot, () -> x.used(0, 0, slot)));
        }
        return told;
    }

    private static List<String> ends(ChannelRows x) {
        List<String> told = new ArrayList<>();
        for (int m = 0; m < MESSAGES; m++) {
            int message = m;
            told.add(answer("ended " + m, () -> x.ended(message)));
            told.add(answer("length " + m, () -> x.length(message)));
        }
        return told;
    }

    private static List<String> listeners(ChannelRows x) {
        List<String> told = new ArrayList<>();
        for (int m = 0; m < MESSAGES; m++) {
            for (int i = 0; i < 4; i++) {
                int message = m;
                int place = i;
                told.add(answer("unheard " + m + " " + i, () -> x.unheard(message, place)));
            }
        }
        return told;
    }

    /** What shows only in later calls: the next numbers, the noise, the patches, the limit. */
    private static List<String> next(ChannelRows x) {
        List<String> told = new ArrayList<>();
        for (int slot : SLOTS) {
            told.add(answer("lose " + slot, () -> x.lose(slot) ? 1 : 0));
        }
        for (int u : UNITS) {
            told.add(answer("speak " + u, () -> x.speak(u, 0, 99, 9)));
        }
        for (int m = 0; m < MESSAGES; m++) {
            int message = m;
            told.add(answer("length of " + m, () -> x.length(message)));
        }
        told.add(answer("unit", () -> x.unit(0, 0, 1, 0)));
        told.add(answer("repeater", () -> x.repeater(0, 0, 1, 0)));
        for (int a = 0; a < CHANNELS; a++) {
            for (int b = a + 1; b < CHANNELS; b++) {
                int one = a;
                int other = b;
                told.add(answer("patch " + a + " " + b, () -> x.patch(one, other) ? 1 : 0));
            }
        }
        return told;
    }

    private static String answer(String what, IntSupplier call) {
        try {
            return what + " = " + call.getAsInt();
        } catch (RuntimeException e) {
            return what + " throws " + e.getClass().getSimpleName();
        }
    }
}
