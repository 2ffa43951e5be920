/** Promise 11: hears (what is in reach, and what a word is: TermsHearingTest). */
public final class HearsTest {
    public static void main(String[] args) {
        Cases cases = new Cases();
        cases.edges("unit", 0, 3, Check.ARGUMENT, Worlds::busy, (x, v) -> x.hears(v, 0));
        cases.edges("unit of 20:", 0, 19, Check.ARGUMENT, Worlds::fullOfUnits,
                (x, v) -> x.hears(v, 0));
        cases.edges("slot", 0, 7, Check.ARRAY_INDEX, Worlds::busy, (x, v) -> x.hears(0, v));
        cases.edges("slot of 1000:", 0, 999, Check.ARRAY_INDEX, () -> Worlds.units(1, 1000),
                (x, v) -> x.hears(0, v));
        cases.refused("there are no units", Check.ARGUMENT, Worlds::emptyDay,
                x -> x.hears(0, 0));
        cases.refused("there are no slots", Check.ARRAY_INDEX, () -> Worlds.units(1, 0),
                x -> x.hears(0, 0));
        cases.refused("no unit, no slot", Check.ARGUMENT, Worlds::busy, x -> x.hears(4, 8));
        cases.refused("no unit, a slot below", Check.ARGUMENT, Worlds::busy,
                x -> x.hears(-1, -1));
        cases.test("there are no messages: nothing", check ->
                check.heardInSlots(Worlds.units(2, 3), 1, 0, 0, 0, 0));
        cases.test("the first message and the first word: 101", check ->
                check.due("hears", 101, first(1).hears(1, 0)));
        cases.test("the first message and no word: 100", check ->
                check.due("hears", 100, first(0).hears(1, 0)));
        cases.test("word 99 of the first message: 199", check ->
                check.due("hears", 199, first(99).hears(1, 98)));
        cases.test("the last of 60 messages: 6000 and more", HearsTest::lastMessage);
        cases.test("nothing before it begins and behind its end", HearsTest::besideIt);
        cases.test("the day's first and last slot", HearsTest::endsOfTheDay);
        cases.test("a lost message is not heard", HearsTest::lostIsNotHeard);
        cases.test("asking changes nothing", check -> {
            ChannelRows x = Worlds.busy();
            for (int slot = 0; slot < 8; slot++) {
                x.hears(1, slot);
            }
            Standing.areAlike(check, Worlds.busy(), x);
        });
        cases.close();
    }

    private static ChannelRows first(int words) {
        ChannelRows x = Worlds.units(2, 100);
        x.speak(0, 0, words, 0);
        return x;
    }

    private static void lastMessage(Check check) {
        ChannelRows x = Worlds.units(2, 200);
        for (int i = 0; i < 58; i++) {
            x.speak(0, i, 1, 0);
        }
        x.speak(0, 60, 0, 0);
        x.speak(0, 61, 99, 0);
        check.due("message 57", 5801, x.hears(1, 57));
        check.due("message 58, without words", 5900, x.hears(1, 60));
        check.due("message 59, its first word", 6001, x.hears(1, 61));
        check.due("message 59, its last word", 6099, x.hears(1, 159));
        check.due("behind it", 0, x.hears(1, 160));
    }

    private static void besideIt(Check check) {
        ChannelRows x = Worlds.units(2, 6);
        x.speak(0, 2, 2, 0);
        check.heardInSlots(x, 1, 0, 0, 0, 101, 102, 0, 0);
    }

    private static void endsOfTheDay(Check check) {
        ChannelRows x = Worlds.units(2, 1000);
        x.speak(0, 0, 1, 0);
        x.speak(0, 999, 2, 0);
        check.heardInSlots(x, 1, 0, 101, 0);
        check.heardInSlots(x, 1, 998, 0, 201);
    }

    private static void lostIsNotHeard(Check check) {
        ChannelRows x = Worlds.units(3, 4);
        x.speak(0, 1, 2, 4);
        x.speak(1, 1, 2, 4);
        check.heardInSlots(x, 2, 0, 0, 0, 0, 0);
        check.heardInSlots(x, 0, 0, 0, 0, 0, 0);
    }
}
