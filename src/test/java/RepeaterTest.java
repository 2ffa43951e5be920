/** Promise 5: repeater. */
public final class RepeaterTest {
    public static void main(String[] args) {
        Cases cases = new Cases();
        numbers(cases);
        wrongAndFull(cases);
        cases.test("repeaters are numbered 0, 1, .. up to 7", RepeaterTest::numbered);
        cases.refused("there are 8", Check.UNSUPPORTED, Worlds::fullOfRepeaters,
                x -> x.repeater(0, 0, 0, 0));
        cases.test("20 units leave room for repeaters", check ->
                check.due("the number", 0, Worlds.fullOfUnits().repeater(0, 0, 0, 0)));
        cases.test("60 messages leave room for repeaters", check ->
                check.due("the number", 0, Worlds.fullOfMessages().repeater(0, 0, 0, 0)));
        cases.test("repeaters come in a day of no slots too", check ->
                check.due("the number", 0, Worlds.day(0).repeater(0, 0, 0, 0)));
        cases.test("the refused one does not repeat", RepeaterTest::refusedIsNone);
        cases.test("the eighth repeats as the first does", RepeaterTest::eighthWorks);
        for (int channel = 0; channel < 6; channel++) {
            int c = channel;
            cases.test("it repeats on channel " + c, check -> onChannel(check, c));
        }
        cases.close();
    }

    private static void numbers(Cases cases) {
        cases.edges("x", 0, 9999, Check.INDEX, Worlds::busy, (x, v) -> x.repeater(v, 0, 0, 0));
        cases.edges("y", 0, 9999, Check.INDEX, Worlds::busy, (x, v) -> x.repeater(0, v, 0, 0));
        cases.edges("reach", 0, 9999, Check.INDEX, Worlds::busy,
                (x, v) -> x.repeater(0, 0, v, 0));
        cases.edges("channel", 0, 5, Check.INDEX, Worlds::busy,
                (x, v) -> x.repeater(0, 0, 0, v));
    }

    private static void wrongAndFull(Cases cases) {
        cases.refused("a wrong x, and there are 8", Check.INDEX, Worlds::fullOfRepeaters,
                x -> x.repeater(10000, 0, 0, 0));
        cases.refused("a wrong y, and there are 8", Check.INDEX, Worlds::fullOfRepeaters,
                x -> x.repeater(0, -1, 0, 0));
        cases.refused("a wrong reach, and there are 8", Check.INDEX, Worlds::fullOfRepeaters,
                x -> x.repeater(0, 0, -1, 0));
        cases.refused("a wrong channel, and there are 8", Check.INDEX, Worlds::fullOfRepeaters,
                x -> x.repeater(0, 0, 0, -1));
    }

    private static void numbered(Check check) {
        ChannelRows x = new ChannelRows();
        for (int i = 0; i < 8; i++) {
            check.due("the number", i, x.repeater(i, i, i, i % 6));
        }
        check.due("units are numbered apart", 0, x.unit(0, 0, 0, 0));
    }

    /** Unit 1 hears unit 0 by a repeater at (5, 0) alone. */
    private static ChannelRows farPair() {
        ChannelRows x = Worlds.day(3);
        x.unit(0, 0, 5, 0);
        x.unit(20, 0, 0, 0);
        x.speak(0, 1, 1, 0);
        return x;
    }

    private static void refusedIsNone(Check check) {
        ChannelRows x = farPair();
        check.refused("a wrong reach", Check.INDEX, () -> x.repeater(5, 0, 10000, 0));
        check.due("not heard", 0, x.hears(1, 1));
        for (int i = 0; i < 8; i++) {
            x.repeater(0, 0, 1, 0);
        }
        check.refused("one too many", Check.UNSUPPORTED, () -> x.repeater(5, 0, 15, 0));
        check.due("not heard still", 0, x.hears(1, 1));
    }

    private static void eighthWorks(Check check) {
        ChannelRows x = farPair();
        for (int i = 0; i < 7; i++) {
            x.repeater(0, 0, 1, 0);
        }
        check.due("not by seven", 0, x.hears(1, 1));
        check.due("the number", 7, x.repeater(5, 0, 15, 0));
        check.due("by the eighth", 101, x.hears(1, 1));
    }

    private static void onChannel(Check check, int channel) {
        ChannelRows x = Worlds.day(3);
        x.unit(0, 0, 5, channel);
        x.unit(20, 0, 0, channel);
        x.speak(0, 1, 1, 0);
        x.repeater(5, 0, 15, (channel + 1) % 6);
        check.due("by one of another channel", 0, x.hears(1, 1));
        x.repeater(5, 0, 15, channel);
        check.due("by one of its channel", 101, x.hears(1, 1));
    }
}
