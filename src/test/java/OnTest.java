/** Promise 12: on (what is on when: TermsAirTest). */
public final class OnTest {
    public static void main(String[] args) {
        Cases cases = new Cases();
        cases.edges("channel", 0, 5, Check.ARGUMENT, Worlds::busy, (x, v) -> x.on(v, 0));
        cases.edges("slot", 0, 7, Check.ARRAY_INDEX, Worlds::busy, (x, v) -> x.on(0, v));
        cases.edges("slot of 1000:", 0, 999, Check.ARRAY_INDEX, () -> Worlds.day(1000),
                (x, v) -> x.on(0, v));
        cases.edges("slot of 1:", 0, 0, Check.ARRAY_INDEX, () -> Worlds.day(1),
                (x, v) -> x.on(0, v));
        cases.refused("there are no slots", Check.ARRAY_INDEX, () -> Worlds.day(0),
                x -> x.on(5, 0));
        cases.refused("no channel, no slot", Check.ARGUMENT, Worlds::busy, x -> x.on(6, 8));
        cases.refused("no channel in a day of no slots", Check.ARGUMENT, ChannelRows::new,
                x -> x.on(-1, -1));
        cases.test("none at all: -1", OnTest::noneAtAll);
        cases.test("message 0 is not none", OnTest::messageZero);
        cases.test("in each channel its own", OnTest::inEachChannel);
        cases.test("in each channel of the group", OnTest::inEachOfTheGroup);
        cases.test("asked by a channel where nobody is", OnTest::whereNobodyIs);
        cases.test("the last of 60", OnTest::lastOfAll);
        cases.close();
    }

    private static void noneAtAll(Check check) {
        ChannelRows x = Worlds.units(3, 2);
        for (int c = 0; c < 6; c++) {
            check.onInSlots(x, c, 0, -1, -1);
        }
    }

    private static void messageZero(Check check) {
        ChannelRows x = Worlds.units(1, 3);
        x.speak(0, 1, 0, 0);
        check.onInSlots(x, 0, 0, -1, 0, -1);
    }

    private static void inEachChannel(Check check) {
        ChannelRows x = Worlds.day(3);
        for (int c = 0; c < 6; c++) {
            x.unit(0, 0, 9, c);
            x.speak(c, 0, 1 + c % 3, 0);
        }
        for (int c = 0; c < 6; c++) {
            check.onInSlots(x, c, 0, c, c % 3 > 0 ? c : -1, c % 3 > 1 ? c : -1);
        }
    }

    private static void inEachOfTheGroup(Check check) {
        ChannelRows x = Worlds.units(1, 3);
        x.patch(5, 3);
        x.patch(3, 0);
        x.speak(0, 1, 1, 0);
        int[] due = {0, -1, -1, 0, -1, 0};
        for (int c = 0; c < 6; c++) {
            check.onInSlots(x, c, 0, -1, due[c], -1);
        }
    }

    private static void whereNobodyIs(Check check) {
        ChannelRows x = Worlds.units(1, 3);
        x.speak(0, 0, 3, 0);
        check.onInSlots(x, 4, 0, -1, -1, -1);
        x.patch(4, 0);
        check.onInSlots(x, 4, 0, 0, 0, 0);
    }

    private static void lastOfAll(Check check) {
        ChannelRows x = Worlds.units(1, 60);
        for (int i = 0; i < 60; i++) {
            x.speak(0, 59 - i, 1, 0);
        }
        check.due("in the first slot", 59, x.on(0, 0));
        check.due("in the last slot", 0, x.on(0, 59));
    }
}
