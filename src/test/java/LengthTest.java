/** Promise 14: length (how long a message is on: TermsAirTest). */
public final class LengthTest {
    public static void main(String[] args) {
        Cases cases = new Cases();
        cases.edges("message", 0, 3, Check.ARGUMENT, Worlds::busy, ChannelRows::length);
        cases.edges("message of 60:", 0, 59, Check.ARGUMENT, Worlds::fullOfMessages,
                ChannelRows::length);
        cases.refused("there are no messages", Check.ARGUMENT, () -> Worlds.units(2, 8),
                x -> x.length(0));
        cases.refused("there are no slots", Check.ARGUMENT, ChannelRows::new, x -> x.length(0));
        for (int words : new int[] {0, 1, 2, 98, 99}) {
            cases.test("of " + words + " words that ended well", check ->
                    check.due("length", Math.max(1, words), alone(words).length(0)));
        }
        cases.test("of a lost one: 0", LengthTest::lost);
        cases.test("of one that was cut: as far as it came", LengthTest::cut);
        cases.test("of one that the limit cut: the limit", check -> {
            ChannelRows x = alone(99);
            x.limit(7);
            check.due("length", 7, x.length(0));
        });
        cases.test("of one that the day cut: up to the day's end", LengthTest::cutByDay);
        cases.test("of one from behind the day: 0", LengthTest::behindTheDay);
        cases.test("of one that broke in: without the slot where it began", LengthTest::brokeIn);
        cases.close();
    }

    private static ChannelRows alone(int words) {
        ChannelRows x = Worlds.units(1, 100);
        x.speak(0, 0, words, 0);
        return x;
    }

    private static void lost(Check check) {
        ChannelRows x = Worlds.units(2, 8);
        x.speak(0, 0, 3, 1);
        x.speak(1, 0, 3, 1);
        check.due("length(0)", 0, x.length(0));
        check.due("length(1)", 0, x.length(1));
    }

    private static void cut(Check check) {
        for (int slot = 1; slot <= 5; slot++) {
            ChannelRows x = Worlds.units(2, 8);
            x.speak(0, 0, 5, 1);
            x.speak(1, slot, 1, 2);
            check.due("broken in in slot " + slot, Math.min(slot + 1, 5), x.length(0));
        }
    }

    private static void cutByDay(Check check) {
        for (int from = 0; from < 8; from++) {
            ChannelRows x = Worlds.units(1, 8);
            x.speak(0, from, 99, 0);
            check.due("from slot " + from, 8 - from, x.length(0));
        }
    }

    private static void behindTheDay(Check check) {
        ChannelRows x = Worlds.units(2, 8);
        x.speak(0, 6, 2, 1);
        x.speak(1, 7, 2, 2);
        check.due("the one before", 2, x.length(0));
        check.due("the one from behind", 0, x.length(1));
    }

    private static void brokeIn(Check check) {
        ChannelRows x = Worlds.units(2, 8);
        x.speak(0, 0, 5, 1);
        x.speak(1, 1, 3, 2);
        check.due("length", 3, x.length(1));
        check.onInSlots(x, 0, 0, 0, 0, 1, 1, 1, -1);
    }
}
