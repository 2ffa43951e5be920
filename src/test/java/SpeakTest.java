/** Promise 8: speak. */
public final class SpeakTest {
    public static void main(String[] args) {
        Cases cases = new Cases();
        numbers(cases);
        empty(cases);
        order(cases);
        cases.test("messages are numbered 0, 1, .. up to 59", SpeakTest::numbered);
        cases.refused("there are 60", Check.UNSUPPORTED, Worlds::fullOfMessages,
                x -> x.speak(2, 5, 1, 9));
        cases.refused("there are 60, in the last slot", Check.UNSUPPORTED, Worlds::fullOfMessages,
                x -> x.speak(19, 7, 99, 0));
        cases.test("the last of 60 is one like others", SpeakTest::theLastOne);
        secondBegins(cases);
        cases.test("told later, begins earlier", SpeakTest::toldLater);
        cases.test("one told later turns all behind it", SpeakTest::turnsAllBehind);
        cases.test("a lost one has a number too", SpeakTest::lostHasNumber);
        cases.close();
    }

    private static void numbers(Cases cases) {
        cases.edges("unit", 0, 3, Check.ARGUMENT, Worlds::busy, (x, v) -> x.speak(v, 0, 1, 1));
        cases.edges("unit of 20:", 0, 19, Check.ARGUMENT, Worlds::fullOfUnits,
                (x, v) -> x.speak(v, 0, 1, 1));
        cases.edges("from", 0, 7, Check.INDEX, Worlds::fullOfUnits, (x, v) -> x.speak(1, v, 1, 1));
        cases.edges("from in 1000:", 0, 999, Check.INDEX, () -> Worlds.units(2, 1000),
                (x, v) -> x.speak(1, v, 1, 1));
        cases.edges("from in 1:", 0, 0, Check.INDEX, () -> Worlds.units(2, 1),
                (x, v) -> x.speak(1, v, 1, 1));
        cases.edges("words", 0, 99, Check.INDEX, Worlds::busy, (x, v) -> x.speak(1, 0, v, 1));
        cases.edges("rank", 0, 9, Check.INDEX, Worlds::busy, (x, v) -> x.speak(1, 0, 1, v));
    }

    private static void empty(Cases cases) {
        cases.refused("there are no units", Check.ARGUMENT, Worlds::emptyDay,
                x -> x.speak(0, 0, 1, 1));
        cases.refused("there are no slots", Check.INDEX, () -> Worlds.units(1, 0),
                x -> x.speak(0, 0, 1, 1));
        cases.refused("there are neither units nor slots", Check.ARGUMENT, ChannelRows::new,
                x -> x.speak(0, 0, 1, 1));
    }

    private static void order(Cases cases) {
        cases.refused("no unit, and all else is wrong", Check.ARGUMENT, Worlds::busy,
                x -> x.speak(4, 8, 100, 10));
        cases.refused("no unit, and there are 60", Check.ARGUMENT, Worlds::fullOfMessages,
                x -> x.speak(20, 5, 1, 1));
        cases.refused("wrong words, and a second begin", Check.INDEX, Worlds::busy,
                x -> x.speak(0, 1, 100, 5));
        cases.refused("a wrong rank, and a second begin", Check.INDEX, Worlds::busy,
                x -> x.speak(0, 1, 3, 10));
        cases.refused("no slot, and there are 60", Check.INDEX, Worlds::fullOfMessages,
                x -> x.speak(0, 8, 1, 1));
        cases.refused("wrong words, and there are 60", Check.INDEX, Worlds::fullOfMessages,
                x -> x.speak(0, 5, -1, 1));
        cases.refused("a wrong rank, and there are 60", Check.INDEX, Worlds::fullOfMessages,
                x -> x.speak(0, 5, 1, -1));
        cases.refused("a second begin, and there are 60", Check.STATE, Worlds::fullOfMessages,
                x -> x.speak(0, 7, 1, 1));
    }

    private static void numbered(Check check) {
        ChannelRows x = Worlds.units(1, 100);
        for (int i = 0; i < 60; i++) {
            int next = i;
            check.refused("not yet " + i, Check.ARGUMENT, () -> x.ended(next));
            check.due("the number", i, x.speak(0, 99 - i, 1, 0));
            check.due("it is there", 0, x.ended(i));
        }
        check.refused("one too many", Check.UNSUPPORTED, () -> x.speak(0, 0, 1, 0));
        check.refused("none of number 60", Check.ARGUMENT, () -> x.ended(60));
        check.due("all are on", 60, x.used(0, 0, 100));
    }

    private static void theLastOne(Check check) {
        ChannelRows x = Worlds.units(2, 100);
        for (int i = 0; i < 60; i++) {
            x.speak(0, i, 1, 0);
        }
        check.due("it is on", 59, x.on(0, 59));
        check.due("it is heard", 6001, x.hears(1, 59));
        check.endedAs(x, 59, 0, 1);
        check.unheardBy(x, 59);
    }

    private static void secondBegins(Cases cases) {
        cases.refused("a second begin in this slot", Check.STATE, Worlds::busy,
                x -> x.speak(0, 1, 3, 5));
        cases.refused("a second begin, of other words and rank", Check.STATE, Worlds::busy,
                x -> x.speak(0, 1, 0, 9));
        cases.refused("a second begin, the first is lost", Check.STATE, Worlds::busy,
                x -> x.speak(1, 2, 1, 9));
        cases.refused("a second begin in slot 0", Check.STATE, SpeakTest::atBothEnds,
                x -> x.speak(0, 0, 1, 1));
        cases.refused("a second begin in the last slot", Check.STATE, SpeakTest::atBothEnds,
                x -> x.speak(0, 7, 1, 1));
        cases.refused("a second begin, on another channel", Check.STATE, SpeakTest::gone,
                x -> x.speak(0, 0, 1, 1));
        cases.test("another unit may begin in this slot", check ->
                check.due("the number", 2, atBothEnds().speak(1, 0, 1, 0)));
        cases.test("the slots beside are free, while it speaks too", check -> {
            ChannelRows x = Worlds.units(1, 8);
            x.speak(0, 3, 3, 0);
            check.due("before", 1, x.speak(0, 2, 1, 0));
            check.due("behind", 2, x.speak(0, 4, 1, 9));
            check.onInSlots(x, 0, 2, 1, 0, 0, 2, -1);
        });
    }

    private static ChannelRows atBothEnds() {
        ChannelRows x = Worlds.units(2, 8);
        x.speak(0, 0, 1, 0);
        x.speak(0, 7, 1, 0);
        return x;
    }

    private static ChannelRows gone() {
        ChannelRows x = atBothEnds();
        x.go(0, 0, 0, 5);
        return x;
    }

    private static void toldLater(Check check) {
        ChannelRows x = Worlds.units(1, 1000);
        check.due("in the last slot", 0, x.speak(0, 999, 0, 0));
        check.due("in the first slot", 1, x.speak(0, 0, 1, 0));
        check.due("in the last but one", 2, x.speak(0, 998, 1, 0));
        check.onInSlots(x, 0, 0, 1, -1);
        check.onInSlots(x, 0, 997, -1, 2, 0);
    }

    private static void turnsAllBehind(Check check) {
        ChannelRows x = Worlds.units(4, 12);
        x.speak(0, 2, 2, 5);
        x.speak(1, 4, 2, 5);
        check.onInSlots(x, 0, 2, 0, 0, 1, 1, -1);
        x.speak(2, 1, 3, 5);
        check.onInSlots(x, 0, 1, 2, 2, 2, 1, 1, -1);
        check.endedAs(x, 0, 3, 0);
        x.speak(3, 0, 4, 6);
        check.onInSlots(x, 0, 0, 3, 3, 3, 3, 1, 1, -1);
        check.endedAs(x, 2, 3, 0);
        x.speak(3, 3, 2, 7);
        check.onInSlots(x, 0, 0, 3, 3, 3, 3, 4, 4, -1);
        check.endedAs(x, 3, 0, 4);
        check.endedAs(x, 1, 3, 0);
    }

    private static void lostHasNumber(Check check) {
        ChannelRows x = Worlds.units(3, 4);
        x.speak(0, 0, 4, 9);
        check.due("a lost one", 1, x.speak(1, 1, 1, 0));
        check.due("the next one", 2, x.speak(2, 1, 1, 0));
        check.endedAs(x, 1, 3, 0);
    }
}
