/** Promise 3: unit. */
public final class UnitTest {
    public static void main(String[] args) {
        Cases cases = new Cases();
        numbers(cases);
        wrongAndFull(cases);
        cases.test("units are numbered 0, 1, .. up to 19", UnitTest::numbered);
        cases.refused("there are 20", Check.UNSUPPORTED, Worlds::fullOfUnits,
                x -> x.unit(0, 0, 0, 0));
        cases.refused("there are 20, and 60 messages", Check.UNSUPPORTED, Worlds::fullOfMessages,
                x -> x.unit(9999, 9999, 9999, 5));
        cases.test("the 20th unit is one like others", UnitTest::theLastOne);
        cases.test("8 repeaters leave room for units", check ->
                check.due("the number", 2, Worlds.fullOfRepeaters().unit(0, 0, 0, 0)));
        cases.test("units come in a day of no slots too", check ->
                check.due("the number", 0, Worlds.day(0).unit(0, 0, 0, 0)));
        cases.test("two at the same point, of the same channel", UnitTest::twoAlike);
        cases.test("a unit of later hears what was told before", UnitTest::comesLate);
        for (int channel = 0; channel < 6; channel++) {
            int c = channel;
            cases.test("it speaks and listens on channel " + c, check -> onChannel(check, c));
        }
        cases.test("reach 0 and reach 9999 are as told", UnitTest::reachesAsTold);
        cases.test("points 0 and 9999 are as told", UnitTest::standsAsTold);
        cases.close();
    }

    private static void numbers(Cases cases) {
        cases.edges("x", 0, 9999, Check.INDEX, Worlds::busy, (x, v) -> x.unit(v, 0, 0, 0));
        cases.edges("y", 0, 9999, Check.INDEX, Worlds::busy, (x, v) -> x.unit(0, v, 0, 0));
        cases.edges("reach", 0, 9999, Check.INDEX, Worlds::busy, (x, v) -> x.unit(0, 0, v, 0));
        cases.edges("channel", 0, 5, Check.INDEX, Worlds::busy, (x, v) -> x.unit(0, 0, 0, v));
    }

    private static void wrongAndFull(Cases cases) {
        cases.refused("a wrong x, and there are 20", Check.INDEX, Worlds::fullOfUnits,
                x -> x.unit(-1, 0, 0, 0));
        cases.refused("a wrong y, and there are 20", Check.INDEX, Worlds::fullOfUnits,
                x -> x.unit(0, 10000, 0, 0));
        cases.refused("a wrong reach, and there are 20", Check.INDEX, Worlds::fullOfUnits,
                x -> x.unit(0, 0, 10000, 0));
        cases.refused("a wrong channel, and there are 20", Check.INDEX, Worlds::fullOfUnits,
                x -> x.unit(0, 0, 0, 6));
        cases.refused("all are wrong", Check.INDEX, Worlds::busy, x -> x.unit(Integer.MIN_VALUE,
                Integer.MAX_VALUE, Integer.MIN_VALUE, Integer.MAX_VALUE));
    }

    private static void numbered(Check check) {
        ChannelRows x = Worlds.day(4);
        for (int i = 0; i < 20; i++) {
            int next = i;
            check.refused("not yet " + i, Check.ARGUMENT, () -> x.hears(next, 0));
            check.due("the number", i, x.unit(i, i, i, i % 6));
            check.due("is there", 0, x.hears(i, 0));
        }
        check.refused("none of number 20", Check.ARGUMENT, () -> x.hears(20, 0));
    }

    private static void theLastOne(Check check) {
        ChannelRows x = Worlds.units(20, 4);
        x.speak(19, 0, 1, 0);
        x.speak(0, 1, 1, 0);
        check.due("unit 18 hears it", 101, x.hears(18, 0));
        check.due("it hears unit 0", 201, x.hears(19, 1));
    }

    private static void twoAlike(Check check) {
        ChannelRows x = Worlds.day(2);
        check.due("one", 0, x.unit(7, 7, 0, 3));
        check.due("another", 1, x.unit(7, 7, 0, 3));
        x.speak(0, 0, 1, 0);
        check.due("the other hears", 101, x.hears(1, 0));
        check.due("the one does not", 0, x.hears(0, 0));
    }

    private static void comesLate(Check check) {
        ChannelRows x = Worlds.units(1, 4);
        x.speak(0, 0, 2, 0);
        check.unheardBy(x, 0);
        x.unit(0, 0, 0, 0);
        check.heardInSlots(x, 1, 0, 101, 102, 0, 0);
        x.unit(500, 0, 0, 0);
        check.unheardBy(x, 0, 2);
    }

    private static void onChannel(Check check, int channel) {
        ChannelRows x = Worlds.day(3);
        x.unit(0, 0, 9, channel);
        x.unit(1, 0, 9, channel);
        x.unit(1, 0, 9, (channel + 1) % 6);
        x.speak(0, 1, 1, 0);
        for (int c = 0; c < 6; c++) {
            check.due("on(" + c + ", 1)", c == channel ? 0 : -1, x.on(c, 1));
        }
        check.due("of the same channel", 101, x.hears(1, 1));
        check.due("of another channel", 0, x.hears(2, 1));
    }

    private static void reachesAsTold(Check check) {
        ChannelRows x = Worlds.day(2);
        x.unit(0, 0, 0, 0);
        x.unit(0, 0, 9999, 0);
        x.unit(1, 0, 0, 0);
        x.unit(9999, 0, 0, 0);
        x.speak(0, 0, 1, 0);
        x.speak(1, 1, 1, 0);
        check.due("reach 0, same point", 101, x.hears(1, 0));
        check.due("reach 0, beside it", 0, x.hears(2, 0));
        check.due("reach 9999, beside it", 201, x.hears(2, 1));
        check.due("reach 9999, 9999 away", 201, x.hears(3, 1));
    }

    private static void standsAsTold(Check check) {
        ChannelRows x = Worlds.day(4);
        int[][] corners = {{0, 0}, {0, 9999}, {9999, 0}, {9999, 9999}};
        for (int i = 0; i < 4; i++) {
            x.unit(corners[i][0], corners[i][1], 0, 0);
            x.speak(i, i, 1, 0);
        }
        x.unit(0, 0, 0, 0);
        for (int i = 0; i < 4; i++) {
            x.go(4, corners[i][0], corners[i][1], 0);
            for (int j = 0; j < 4; j++) {
                check.due("hears(4, " + j + ")", i == j ? 100 * j + 101 : 0, x.hears(4, j));
            }
        }
    }
}
