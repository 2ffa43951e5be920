/** Promise 8: speak. */
public final class SpeakTest {
    public static void main(String[] args) {
        Check check = new Check();
        numbersAndEdges(check);
        wrongInputs(check);
        oneBeginASlot(check);
        sixtyAtMost(check);
        check.close();
    }

    private static void numbersAndEdges(Check check) {
        ChannelRows x = new ChannelRows();
        x.day(1000);
        x.unit(0, 0, 9, 0);
        x.unit(0, 0, 9, 1);
        check.due("in the first slot, with most words", 0, x.speak(0, 0, 99, 9));
        check.due("in the last slot, without words", 1, x.speak(1, 999, 0, 0));
        check.endedAs(x, 0, 0, 99);
        check.endedAs(x, 1, 0, 1);
        check.due("told later, begins earlier", 2, x.speak(1, 998, 1, 0));
        check.onInSlots(x, 1, 997, -1, 2, 1);
    }

    private static void wrongInputs(Check check) {
        ChannelRows x = new ChannelRows();
        x.day(10);
        check.refused("no unit at all", Check.ARGUMENT, () -> x.speak(0, 0, 1, 1));
        x.unit(0, 0, 9, 0);
        check.refused("unit below", Check.ARGUMENT, () -> x.speak(-1, 0, 1, 1));
        check.refused("unit above", Check.ARGUMENT, () -> x.speak(1, 0, 1, 1));
        check.refused("no unit, no slot", Check.ARGUMENT, () -> x.speak(1, 10, 100, 10));
        check.refused("slot below", Check.INDEX, () -> x.speak(0, -1, 1, 1));
        check.refused("slot above", Check.INDEX, () -> x.speak(0, 10, 1, 1));
        check.refused("words below", Check.INDEX, () -> x.speak(0, 0, -1, 1));
        check.refused("words above", Check.INDEX, () -> x.speak(0, 0, 100, 1));
        check.refused("rank below", Check.INDEX, () -> x.speak(0, 0, 1, -1));
        check.refused("rank above", Check.INDEX, () -> x.speak(0, 0, 1, 10));
        check.refused("none was told", Check.ARGUMENT, () -> x.ended(0));
        check.due("none was counted", 0, x.speak(0, 0, 1, 1));
    }

    private static void oneBeginASlot(Check check) {
        ChannelRows x = new ChannelRows();
        x.day(10);
        x.unit(0, 0, 9, 0);
        x.unit(0, 0, 9, 0);
        x.speak(0, 4, 3, 1);
        check.refused("a second begin", Check.STATE, () -> x.speak(0, 4, 1, 9));
        check.refused("a second begin with wrong words", Check.INDEX, () -> x.speak(0, 4, 100, 9));
        x.go(0, 0, 0, 5);
        check.refused("a second begin elsewhere", Check.STATE, () -> x.speak(0, 4, 1, 9));
        check.due("another unit may", 1, x.speak(1, 4, 1, 0));
        check.due("another slot may, while it speaks", 2, x.speak(0, 5, 1, 9));
        check.onInSlots(x, 0, 4, 0, 0, 0, -1);
        check.onInSlots(x, 5, 4, -1, 2, -1);
    }

    private static void sixtyAtMost(Check check) {
        ChannelRows x = new ChannelRows();
        x.day(100);
        x.unit(0, 0, 9, 0);
        for (int i = 0; i < 60; i++) {
            check.due("message " + i, i, x.speak(0, 99 - i, 1, 0));
        }
        check.refused("one too many", Check.UNSUPPORTED, () -> x.speak(0, 0, 1, 0));
        check.refused("one too many, a second begin", Check.STATE, () -> x.speak(0, 99, 1, 0));
        check.refused("one too many, no rank", Check.INDEX, () -> x.speak(0, 0, 1, 10));
        check.refused("one too many, no unit", Check.ARGUMENT, () -> x.speak(1, 0, 1, 0));
        check.due("the last of them", 59, x.on(0, 40));
        check.due("all are on", 60, x.used(0, 0, 100));
    }
}
