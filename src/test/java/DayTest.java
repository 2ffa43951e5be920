/** Promise 2: day. */
public final class DayTest {
    public static void main(String[] args) {
        Cases cases = new Cases();
        cases.allowed("slots", 0, 1000, Worlds::busy, ChannelRows::day);
        cases.refusedBelow("slots", 0, Check.NEGATIVE_SIZE, Worlds::busy, ChannelRows::day);
        cases.refusedAbove("slots", 1000, Check.ARGUMENT, Worlds::busy, ChannelRows::day);
        cases.refused("a new object takes no day of -1", Check.NEGATIVE_SIZE, ChannelRows::new,
                x -> x.day(-1));
        cases.refused("a new object takes no day of 1001", Check.ARGUMENT, ChannelRows::new,
                x -> x.day(1001));
        for (int slots : new int[] {0, 1, 2, 999, 1000}) {
            cases.test("a day of " + slots + " has just so many slots", check ->
                    hasSlots(check, Worlds.day(slots), slots));
            cases.test("a day of " + slots + " behind another one", check ->
                    hasSlots(check, behindAnother(slots), slots));
        }
        forgets(cases);
        cases.test("there is room for 20 units again", DayTest::roomForUnits);
        cases.test("there is room for 8 repeaters again", DayTest::roomForRepeaters);
        cases.test("there is room for 60 messages again", DayTest::roomForMessages);
        cases.close();
    }

    private static ChannelRows behindAnother(int slots) {
        ChannelRows x = Worlds.busy();
        x.day(slots);
        return x;
    }

    private static void hasSlots(Check check, ChannelRows x, int slots) {
        if (slots > 0) {
            check.due("the first slot", -1, x.on(0, 0));
            check.due("the last slot", -1, x.on(0, slots - 1));
            check.due("noise in the last slot", true, x.lose(slots - 1));
        }
        check.refused("the slot behind", Check.ARRAY_INDEX, () -> x.on(0, slots));
        check.refused("noise behind", Check.ARRAY_INDEX, () -> x.lose(slots) ? 1 : 0);
        check.refused("the slot before", Check.ARRAY_INDEX, () -> x.on(0, -1));
        check.due("the whole day", 0, x.used(0, 0, slots));
        check.refused("more than the day", Check.INDEX, () -> x.used(0, 0, slots + 1));
    }

    private static void forgets(Cases cases) {
        cases.test("a day is as a first day of its length", check ->
                Standing.areAlike(check, Worlds.day(8), behindAnother(8)));
        cases.test("units are forgotten", check -> {
            ChannelRows x = behindAnother(8);
            check.refused("unit 0", Check.ARGUMENT, () -> x.hears(0, 0));
            check.due("the next one", 0, x.unit(0, 0, 0, 0));
            check.refused("unit 1", Check.ARGUMENT, () -> x.hears(1, 0));
        });
        cases.test("messages are forgotten", check -> {
            ChannelRows x = behindAnother(8);
            check.refused("message 0", Check.ARGUMENT, () -> x.ended(0));
            check.onInSlots(x, 0, 0, -1, -1, -1, -1, -1, -1, -1, -1);
            x.unit(0, 0, 0, 0);
            check.due("the next one, where the first one was", 0, x.speak(0, 1, 1, 0));
            check.endedAs(x, 0, 0, 1);
        });
        cases.test("repeaters are forgotten", DayTest::repeatersAreForgotten);
        for (int pair = 0; pair < 36; pair++) {
            int a = pair / 6;
            int b = pair % 6;
            if (a != b) {
                cases.test("the patch of " + a + " and " + b + " is forgotten", check ->
                        patchIsForgotten(check, a, b));
            }
        }
        cases.test("a group of all channels is forgotten", DayTest::groupIsForgotten);
        cases.test("the limit is forgotten", DayTest::limitIsForgotten);
        cases.test("noise is forgotten", check ->
                check.due("lose", true, behindAnother(8).lose(5)));
        cases.test("noise of the longest day's ends is forgotten", DayTest::noiseOfTheEnds);
        cases.test("a day of no slots forgets too", check -> {
            ChannelRows x = behindAnother(0);
            x.day(8);
            Standing.areAlike(check, Worlds.day(8), x);
        });
    }

    private static void repeatersAreForgotten(Check check) {
        ChannelRows x = Worlds.day(3);
        x.repeater(5, 0, 9999, 0);
        x.day(3);
        x.unit(0, 0, 5, 0);
        x.unit(9, 0, 5, 0);
        x.speak(0, 0, 1, 0);
        check.due("out of reach", 0, x.hears(1, 0));
        check.due("the next one", 0, x.repeater(9, 0, 9999, 0));
        check.due("too far to take it on", 0, x.hears(1, 0));
    }

    private static void patchIsForgotten(Check check, int a, int b) {
        ChannelRows x = Worlds.day(1);
        x.patch(a, b);
        x.day(1);
        x.unit(0, 0, 0, a);
        x.speak(0, 0, 1, 0);
        for (int c = 0; c < 6; c++) {
            check.due("on(" + c + ", 0)", c == a ? 0 : -1, x.on(c, 0));
        }
        check.due("patch", true, x.patch(a, b));
    }

    private static void groupIsForgotten(Check check) {
        ChannelRows x = Worlds.day(1);
        for (int c = 0; c < 5; c++) {
            x.patch(5 - c, 4 - c);
        }
        x.day(1);
        for (int c = 0; c < 5; c++) {
            check.due("patch", true, x.patch(c, c + 1));
        }
    }

    private static void limitIsForgotten(Check check) {
        ChannelRows x = Worlds.day(8);
        x.limit(1);
        x.day(8);
        x.unit(0, 0, 0, 0);
        x.speak(0, 0, 8, 0);
        check.endedAs(x, 0, 0, 8);
    }

    private static void noiseOfTheEnds(Check check) {
        ChannelRows x = Worlds.day(1000);
        x.lose(0);
        x.lose(999);
        x.day(1);
        x.day(1000);
        check.due("the first slot", true, x.lose(0));
        check.due("the last slot", true, x.lose(999));
    }

    private static void roomForUnits(Check check) {
        ChannelRows x = Worlds.fullOfUnits();
        x.day(8);
        for (int i = 0; i < 20; i++) {
            check.due("the number", i, x.unit(0, 0, 0, 0));
        }
        check.refused("unit 20", Check.UNSUPPORTED, () -> x.unit(0, 0, 0, 0));
    }

    private static void roomForRepeaters(Check check) {
        ChannelRows x = Worlds.fullOfRepeaters();
        x.day(8);
        for (int i = 0; i < 8; i++) {
            check.due("the number", i, x.repeater(0, 0, 0, 0));
        }
        check.refused("repeater 8", Check.UNSUPPORTED, () -> x.repeater(0, 0, 0, 0));
    }

    private static void roomForMessages(Check check) {
        ChannelRows x = Worlds.fullOfMessages();
        x.day(60);
        x.unit(0, 0, 0, 0);
        for (int i = 0; i < 60; i++) {
            check.due("the number", i, x.speak(0, i, 1, 0));
        }
        check.due("all are on", 60, x.used(0, 0, 60));
    }
}
