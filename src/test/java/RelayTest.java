/** Promise 9: relay. */
public final class RelayTest {
    public static void main(String[] args) {
        Cases cases = new Cases();
        numbers(cases);
        empty(cases);
        order(cases);
        secondBegins(cases);
        eachWord(cases);
        withoutWords(cases);
        goodEnds(cases);
        cases.refused("there are 60", Check.UNSUPPORTED, Worlds::fullOfMessages,
                x -> x.relay(1, 0, 5, 1));
        cases.test("relays count up to 60", RelayTest::sixtyAtMost);
        cases.test("a refused one takes no number", RelayTest::refusedTakesNone);
        saysItAgain(cases);
        cases.close();
    }

    private static void numbers(Cases cases) {
        cases.allowed("unit", 1, 2, RelayTest::heardByTwo, (x, v) -> x.relay(v, 0, 6, 1));
        cases.refusedBelow("unit", 0, Check.ARGUMENT, RelayTest::heardByTwo,
                (x, v) -> x.relay(v, 0, 6, 1));
        cases.refusedAbove("unit", 2, Check.ARGUMENT, RelayTest::heardByTwo,
                (x, v) -> x.relay(v, 0, 6, 1));
        cases.allowed("unit of 20:", 1, 19, RelayTest::heardByAll,
                (x, v) -> x.relay(v, 0, 6, 1));
        cases.refusedAbove("unit of 20:", 19, Check.ARGUMENT, RelayTest::heardByAll,
                (x, v) -> x.relay(v, 0, 6, 1));
        cases.edges("message", 0, 1, Check.ARGUMENT, RelayTest::twoMessages,
                (x, v) -> x.relay(1, v, 6, 1));
        cases.edges("from", 0, 7, Check.INDEX, RelayTest::heardByTwo,
                (x, v) -> x.relay(1, 0, v, 1));
        cases.edges("from in 1000:", 0, 999, Check.INDEX, RelayTest::longestDay,
                (x, v) -> x.relay(1, 0, v, 1));
        cases.edges("rank", 0, 9, Check.INDEX, RelayTest::heardByTwo,
                (x, v) -> x.relay(1, 0, 6, v));
        cases.edges("message of 59:", 0, 58, Check.ARGUMENT, RelayTest::roomForOne,
                (x, v) -> x.relay(1, v, 99, 1));
    }

    private static ChannelRows heardByTwo() {
        ChannelRows x = Worlds.units(3, 8);
        x.speak(0, 1, 3, 5);
        return x;
    }

    private static ChannelRows heardByAll() {
        ChannelRows x = Worlds.units(20, 8);
        x.speak(0, 1, 3, 5);
        return x;
    }

    private static ChannelRows twoMessages() {
        ChannelRows x = heardByTwo();
        x.speak(0, 4, 2, 5);
        return x;
    }

    private static ChannelRows longestDay() {
        ChannelRows x = Worlds.units(2, 1000);
        x.speak(0, 500, 99, 5);
        return x;
    }

    private static ChannelRows roomForOne() {
        ChannelRows x = Worlds.units(2, 100);
        for (int i = 0; i < 59; i++) {
            x.speak(0, i, 1, 0);
        }
        return x;
    }

    private static void empty(Cases cases) {
        cases.refused("there are no units", Check.ARGUMENT, Worlds::emptyDay,
                x -> x.relay(0, 0, 0, 1));
        cases.refused("there are no messages", Check.ARGUMENT, () -> Worlds.units(2, 8),
                x -> x.relay(0, 0, 0, 1));
        cases.refused("there are no slots", Check.ARGUMENT, () -> Worlds.units(2, 0),
                x -> x.relay(0, 0, 0, 1));
    }

    private static void order(Cases cases) {
        cases.refused("no unit, and all else is wrong", Check.ARGUMENT, Worlds::busy,
                x -> x.relay(4, 0, 8, 10));
        cases.refused("no message, and all else is wrong", Check.ARGUMENT, Worlds::busy,
                x -> x.relay(1, 4, -1, -1));
        cases.refused("no message, and there are 60", Check.ARGUMENT, Worlds::fullOfMessages,
                x -> x.relay(1, 60, 5, 1));
        cases.refused("no slot, and it was not heard", Check.INDEX, Worlds::busy,
                x -> x.relay(0, 0, 8, 1));
        cases.refused("no rank, and it did not end well", Check.INDEX, Worlds::busy,
                x -> x.relay(0, 1, 5, 10));
        cases.refused("no rank, and a second begin", Check.INDEX, Worlds::busy,
                x -> x.relay(1, 0, 2, 10));
        cases.refused("no slot, and there are 60", Check.INDEX, Worlds::fullOfMessages,
                x -> x.relay(1, 0, 8, 1));
        cases.refused("a second begin, and there are 60", Check.STATE, Worlds::fullOfMessages,
                x -> x.relay(1, 0, 0, 1));
        cases.refused("it was not heard, and there are 60", Check.STATE, Worlds::fullOfMessages,
                x -> x.relay(0, 0, 5, 1));
    }

    private static void secondBegins(Cases cases) {
        cases.refused("the unit has one that begins in this slot", Check.STATE, Worlds::busy,
                x -> x.relay(1, 0, 2, 9));
        cases.refused("the unit has a relay that begins in this slot", Check.STATE,
                RelayTest::relayed, x -> x.relay(1, 0, 6, 1));
        cases.refused("a relay counts for speak", Check.STATE, RelayTest::relayed,
                x -> x.speak(1, 6, 1, 1));
        cases.test("another unit may begin with it", check ->
                check.due("the number", 2, relayed().relay(2, 0, 6, 1)));
        cases.test("the slots beside are free", check -> {
            check.due("before", 2, relayed().relay(1, 0, 5, 1));
            check.due("behind", 2, relayed().relay(1, 0, 7, 1));
        });
    }

    private static ChannelRows relayed() {
        ChannelRows x = heardByTwo();
        x.relay(1, 0, 6, 1);
        return x;
    }

    private static void eachWord(Cases cases) {
        for (int lost = 1; lost <= 3; lost++) {
            int slot = lost;
            cases.refused("noise loses word " + slot, Check.STATE, () -> withNoise(3, slot),
                    x -> x.relay(1, 0, 6, 1));
        }
        cases.test("noise in the slot before", check ->
                check.due("the number", 1, withNoise(3, 0).relay(1, 0, 6, 1)));
        cases.test("noise in the slot behind", check ->
                check.due("the number", 1, withNoise(3, 4).relay(1, 0, 6, 1)));
        cases.refused("the last of 99 words is lost", Check.STATE, () -> {
            ChannelRows x = longestDay();
            x.lose(598);
            return x;
        }, x -> x.relay(1, 0, 6, 1));
        cases.test("all of 99 words are heard", check -> {
            ChannelRows x = longestDay();
            x.lose(499);
            x.lose(599);
            check.due("the number", 1, x.relay(1, 0, 0, 1));
            check.endedAs(x, 1, 0, 99);
        });
        cases.refused("its own words", Check.STATE, RelayTest::heardByTwo,
                x -> x.relay(0, 0, 6, 1));
        cases.refused("its own words, with a repeater beside", Check.STATE, () -> {
            ChannelRows x = heardByTwo();
            x.repeater(0, 0, 100, 0);
            return x;
        }, x -> x.relay(0, 0, 6, 1));
        cases.refused("one step out of reach", Check.STATE, () -> goneTo(101, 0),
                x -> x.relay(1, 0, 6, 1));
        cases.test("just in reach", check ->
                check.due("the number", 1, goneTo(100, 0).relay(1, 0, 6, 1)));
        cases.refused("on another channel", Check.STATE, () -> goneTo(1, 5),
                x -> x.relay(1, 0, 6, 1));
        cases.test("on another channel of the group", check -> {
            ChannelRows x = goneTo(1, 5);
            x.patch(5, 0);
            check.due("the number", 1, x.relay(1, 0, 6, 1));
            check.due("on its own channel", 1, x.on(5, 6));
        });
        cases.test("by a repeater", check -> {
            ChannelRows x = goneTo(110, 0);
            x.repeater(100, 0, 10, 0);
            check.due("the number", 1, x.relay(1, 0, 6, 1));
        });
    }

    private static ChannelRows withNoise(int words, int slot) {
        ChannelRows x = Worlds.units(2, 8);
        x.speak(0, 1, words, 5);
        x.lose(slot);
        return x;
    }

    private static ChannelRows goneTo(int point, int channel) {
        ChannelRows x = heardByTwo();
        x.go(1, point, 0, channel);
        return x;
    }

    private static void withoutWords(Cases cases) {
        cases.test("of one without words its slot is heard", check -> {
            ChannelRows x = withNoise(0, 2);
            check.due("the number", 1, x.relay(1, 0, 4, 0));
            check.endedAs(x, 1, 0, 1);
            check.due("heard without a word", 200, x.hears(0, 4));
        });
        cases.refused("of one without words its slot is lost", Check.STATE,
                () -> withNoise(0, 1), x -> x.relay(1, 0, 4, 0));
        cases.refused("of one without words its slot is out of reach", Check.STATE, () -> {
            ChannelRows x = withNoise(0, 2);
            x.go(1, 101, 0, 0);
            return x;
        }, x -> x.relay(1, 0, 4, 0));
    }

    private static void goodEnds(Cases cases) {
        cases.refused("it was cut", Check.STATE, () -> {
            ChannelRows x = heardByTwo();
            x.speak(2, 2, 1, 6);
            return x;
        }, x -> x.relay(1, 0, 6, 1));
        cases.test("a rank broke in in its last slot", check -> {
            ChannelRows x = heardByTwo();
            x.speak(2, 3, 1, 6);
            check.due("the number", 2, x.relay(1, 0, 6, 1));
        });
        cases.refused("it was cut by the limit", Check.STATE, () -> {
            ChannelRows x = heardByTwo();
            x.limit(2);
            return x;
        }, x -> x.relay(1, 0, 6, 1));
        cases.test("the limit is its length", check -> {
            ChannelRows x = heardByTwo();
            x.limit(3);
            check.due("the number", 1, x.relay(1, 0, 6, 1));
        });
        cases.refused("it was lost", Check.STATE, () -> {
            ChannelRows x = heardByTwo();
            x.speak(2, 1, 3, 5);
            return x;
        }, x -> x.relay(1, 0, 6, 1));
        cases.refused("it was cut by the day", Check.STATE, () -> lastSlots(3),
                x -> x.relay(1, 0, 0, 1));
        cases.test("it ended in the day's last slot", check ->
                check.due("the number", 1, lastSlots(2).relay(1, 0, 0, 1)));
        cases.refused("it would have been on from behind the day", Check.STATE, () -> {
            ChannelRows x = lastSlots(2);
            x.speak(2, 7, 1, 9);
            return x;
        }, x -> x.relay(1, 1, 0, 1));
    }

    private static ChannelRows lastSlots(int words) {
        ChannelRows x = Worlds.units(3, 8);
        x.speak(0, 6, words, 5);
        return x;
    }

    private static void sixtyAtMost(Check check) {
        ChannelRows x = Worlds.units(2, 100);
        x.speak(0, 99, 1, 0);
        for (int i = 1; i < 60; i++) {
            check.due("relay " + i, i, x.relay(1, 0, i, 0));
        }
        check.refused("one too many", Check.UNSUPPORTED, () -> x.relay(1, 0, 80, 0));
        check.due("all are on", 60, x.used(0, 0, 100));
    }

    private static void refusedTakesNone(Check check) {
        ChannelRows x = heardByTwo();
        check.refused("its own words", Check.STATE, () -> x.relay(0, 0, 6, 1));
        check.due("none is on", -1, x.on(0, 6));
        check.due("the next number", 1, x.relay(1, 0, 6, 1));
    }

    private static void saysItAgain(Cases cases) {
        cases.test("one that was out of reach hears it now", RelayTest::carriesOn);
        cases.test("a relay may be relayed, by its first speaker too", RelayTest::relayOfRelay);
        cases.test("its rank is its own", RelayTest::rankOfItsOwn);
        cases.test("it is on the unit's channel of when it was told", RelayTest::onItsChannel);
        cases.test("it may begin before the message itself", check -> {
            ChannelRows x = Worlds.units(2, 8);
            x.speak(0, 5, 2, 0);
            check.due("the number", 1, x.relay(1, 0, 0, 0));
            check.onInSlots(x, 0, 0, 1, 1, -1, -1, -1, 0, 0, -1);
        });
        cases.test("it may break in on the message itself", check -> {
            ChannelRows x = heardByTwo();
            check.due("the number", 1, x.relay(1, 0, 2, 9));
            check.onInSlots(x, 0, 0, -1, 0, 0, 1, 1, 1, -1);
            check.endedAs(x, 0, 1, 2);
            check.endedAs(x, 1, 0, 3);
        });
        cases.test("in the last slot it is cut by the day", check -> {
            ChannelRows x = heardByTwo();
            x.relay(1, 0, 7, 9);
            check.endedAs(x, 1, 4, 1);
        });
    }

    private static ChannelRows threeInARow() {
        ChannelRows x = Worlds.day(20);
        x.unit(0, 0, 10, 0);
        x.unit(10, 0, 10, 0);
        x.unit(20, 0, 10, 0);
        x.speak(0, 1, 3, 5);
        return x;
    }

    private static void carriesOn(Check check) {
        ChannelRows x = threeInARow();
        check.heardInSlots(x, 2, 1, 0, 0, 0);
        check.due("the number", 1, x.relay(1, 0, 6, 7));
        check.endedAs(x, 1, 0, 3);
        check.heardInSlots(x, 2, 5, 0, 201, 202, 203, 0);
        check.heardInSlots(x, 0, 5, 0, 201, 202, 203, 0);
    }

    private static void relayOfRelay(Check check) {
        ChannelRows x = threeInARow();
        x.relay(1, 0, 6, 7);
        check.due("by another", 2, x.relay(2, 1, 10, 0));
        check.due("by the first speaker", 3, x.relay(0, 1, 14, 0));
        check.endedAs(x, 3, 0, 3);
    }

    private static void rankOfItsOwn(Check check) {
        ChannelRows x = threeInARow();
        x.relay(1, 0, 6, 7);
        x.speak(2, 7, 1, 7);
        check.endedAs(x, 2, 3, 0);
        x.speak(0, 7, 1, 8);
        check.endedAs(x, 1, 1, 2);
        x.speak(2, 6, 1, 8);
        check.endedAs(x, 1, 3, 0);
    }

    private static void onItsChannel(Check check) {
        ChannelRows x = threeInARow();
        x.patch(0, 4);
        x.go(1, 10, 0, 4);
        x.relay(1, 0, 6, 0);
        x.go(1, 10, 0, 1);
        check.onInSlots(x, 4, 5, -1, 1, 1, 1, -1);
        check.onInSlots(x, 1, 5, -1, -1, -1, -1);
    }
}
