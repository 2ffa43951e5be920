/** Promise 9: relay. */
public final class RelayTest {
    public static void main(String[] args) {
        Check check = new Check();
        saysItAgain(check);
        needsEachWord(check);
        needsAGoodEnd(check);
        wrongInputs(check);
        sixtyAtMost(check);
        check.close();
    }

    private static ChannelRows threeInARow(int words) {
        ChannelRows x = new ChannelRows();
        x.day(20);
        x.unit(0, 0, 10, 0);
        x.unit(10, 0, 10, 0);
        x.unit(20, 0, 10, 0);
        x.speak(0, 1, words, 5);
        return x;
    }

    private static void saysItAgain(Check check) {
        ChannelRows x = threeInARow(3);
        check.heardInSlots(x, 2, 1, 0, 0, 0);
        x.go(1, 10, 0, 0);
        check.due("the relay's number", 1, x.relay(1, 0, 6, 7));
        check.endedAs(x, 1, 0, 3);
        check.heardInSlots(x, 2, 5, 0, 201, 202, 203, 0);
        check.heardInSlots(x, 0, 5, 0, 201, 202, 203, 0);
        check.due("one that is relayed may be relayed", 2, x.relay(2, 1, 10, 0));
        check.due("by its first speaker too", 3, x.relay(0, 1, 14, 0));
        check.due("its rank is its own: lost", 4, x.speak(2, 7, 1, 7));
        check.endedAs(x, 4, 3, 0);
        check.due("its rank is its own: breaks in", 5, x.speak(2, 6, 1, 8));
        check.endedAs(x, 1, 3, 0);
        x.go(1, 5, 0, 3);
        check.onInSlots(x, 3, 14, -1, -1);

        ChannelRows y = threeInARow(0);
        check.due("one without words", 1, y.relay(1, 0, 0, 0));
        check.heardInSlots(y, 2, 0, 200, 0);
        check.due("from before its own slot", 0, y.ended(1));

        ChannelRows z = threeInARow(2);
        z.patch(0, 4);
        z.go(1, 10, 0, 4);
        check.due("on the unit's channel of now", 1, z.relay(1, 0, 6, 0));
        z.go(1, 10, 0, 1);
        check.onInSlots(z, 4, 5, -1, 1, 1, -1);
        check.onInSlots(z, 1, 5, -1, -1, -1, -1);
    }

    private static void needsEachWord(Check check) {
        ChannelRows x = threeInARow(3);
        check.refused("out of reach", Check.STATE, () -> x.relay(2, 0, 6, 1));
        check.refused("its own words", Check.STATE, () -> x.relay(0, 0, 6, 1));
        for (int slot = 1; slot <= 3; slot++) {
            x.lose(slot);
            check.refused("a word lost in slot " + slot, Check.STATE, () -> x.relay(1, 0, 6, 1));
            x.lose(slot);
        }
        x.lose(0);
        x.lose(4);
        x.go(1, 10, 0, 1);
        check.refused("on another channel", Check.STATE, () -> x.relay(1, 0, 6, 1));
        x.patch(0, 1);
        check.due("on a channel of the group", 1, x.relay(1, 0, 6, 1));

        ChannelRows y = threeInARow(0);
        y.lose(1);
        check.refused("without words, slot lost", Check.STATE, () -> y.relay(1, 0, 6, 1));
        y.lose(1);
        check.due("without words, slot heard", 1, y.relay(1, 0, 6, 1));
    }

    private static void needsAGoodEnd(Check check) {
        ChannelRows x = threeInARow(3);
        x.limit(2);
        check.refused("cut by the limit", Check.STATE, () -> x.relay(1, 0, 6, 1));
        x.limit(0);
        x.speak(2, 2, 1, 6);
        check.refused("cut", Check.STATE, () -> x.relay(1, 0, 6, 1));
        x.speak(1, 1, 1, 9);
        check.refused("lost", Check.STATE, () -> x.relay(1, 0, 6, 1));
        x.speak(0, 18, 3, 0);
        check.refused("cut by the day", Check.STATE, () -> x.relay(1, 3, 6, 1));
    }

    private static void wrongInputs(Check check) {
        ChannelRows x = threeInARow(3);
        check.refused("unit below", Check.ARGUMENT, () -> x.relay(-1, 0, 6, 1));
        check.refused("unit above", Check.ARGUMENT, () -> x.relay(3, 0, 6, 1));
        check.refused("message below", Check.ARGUMENT, () -> x.relay(1, -1, 6, 1));
        check.refused("message above", Check.ARGUMENT, () -> x.relay(1, 1, 6, 1));
        check.refused("no message, no slot", Check.ARGUMENT, () -> x.relay(1, 1, 20, 10));
        check.refused("slot below", Check.INDEX, () -> x.relay(1, 0, -1, 1));
        check.refused("slot above", Check.INDEX, () -> x.relay(1, 0, 20, 1));
        check.refused("rank below", Check.INDEX, () -> x.relay(1, 0, 6, -1));
        check.refused("rank above", Check.INDEX, () -> x.relay(1, 0, 6, 10));
        check.refused("unheard and no rank", Check.INDEX, () -> x.relay(2, 0, 6, 10));
        check.due("the first relay", 1, x.relay(1, 0, 6, 1));
        check.refused("a second begin", Check.STATE, () -> x.relay(1, 0, 6, 1));
        check.refused("a second begin by words", Check.STATE, () -> x.speak(1, 6, 1, 1));
        check.due("in the last slot, of the highest rank", 2, x.relay(1, 0, 19, 9));
        check.endedAs(x, 2, 4, 1);
    }

    private static void sixtyAtMost(Check check) {
        ChannelRows x = new ChannelRows();
        x.day(100);
        x.unit(0, 0, 10, 0);
        x.unit(0, 0, 10, 0);
        x.speak(0, 99, 1, 0);
        for (int i = 1; i < 60; i++) {
            check.due("relay " + i, i, x.relay(1, 0, i, 0));
        }
        check.refused("one too many", Check.UNSUPPORTED, () -> x.relay(1, 0, 80, 0));
        check.refused("one too many, unheard", Check.STATE, () -> x.relay(0, 0, 80, 0));
        check.refused("one too many, a second begin", Check.STATE, () -> x.relay(1, 0, 5, 0));
    }
}
