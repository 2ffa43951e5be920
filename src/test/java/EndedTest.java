/** Promises 13 and 14: ended and length. */
public final class EndedTest {
    public static void main(String[] args) {
        Check check = new Check();
        everyEnding(check);
        cutInItsLastSlot(check);
        theDaysEnd(check);
        wrongInputs(check);
        check.close();
    }

    private static ChannelRows threeUnits(int slots) {
        ChannelRows x = new ChannelRows();
        x.day(slots);
        for (int i = 0; i < 3; i++) {
            x.unit(i, 0, 100, 0);
        }
        return x;
    }

    private static void everyEnding(Check check) {
        ChannelRows x = threeUnits(20);
        x.speak(0, 0, 0, 1);
        x.speak(0, 1, 4, 1);
        x.speak(1, 2, 3, 2);
        x.speak(2, 3, 3, 2);
        x.speak(0, 19, 2, 0);
        check.endedAs(x, 0, 0, 1);
        check.endedAs(x, 1, 1, 2);
        check.endedAs(x, 2, 0, 3);
        check.endedAs(x, 3, 3, 0);
        check.endedAs(x, 4, 4, 1);
        x.limit(1);
        check.endedAs(x, 0, 0, 1);
        check.endedAs(x, 1, 2, 1);
        check.endedAs(x, 2, 2, 1);
        check.endedAs(x, 3, 2, 1);
        check.endedAs(x, 4, 2, 1);
    }

    private static void cutInItsLastSlot(Check check) {
        ChannelRows x = threeUnits(20);
        x.speak(0, 1, 3, 1);
        x.speak(1, 3, 2, 2);
        check.endedAs(x, 0, 0, 3);
        check.endedAs(x, 1, 0, 2);
        check.onInSlots(x, 0, 3, 0, 1, 1, -1);
        x.speak(2, 10, 3, 4);
        x.speak(1, 12, 1, 4);
        check.endedAs(x, 2, 0, 3);
        check.endedAs(x, 3, 3, 0);
        x.speak(0, 10, 1, 5);
        check.endedAs(x, 2, 3, 0);
        check.endedAs(x, 3, 0, 1);
    }

    private static void theDaysEnd(Check check) {
        ChannelRows x = threeUnits(10);
        x.speak(0, 7, 3, 1);
        check.endedAs(x, 0, 0, 3);
        x.speak(1, 9, 1, 2);
        check.endedAs(x, 0, 0, 3);
        check.endedAs(x, 1, 4, 0);
        x.speak(0, 6, 5, 1);
        check.endedAs(x, 2, 4, 4);
        check.endedAs(x, 0, 3, 0);
        check.endedAs(x, 1, 4, 0);
        x.speak(2, 8, 2, 5);
        check.endedAs(x, 2, 1, 3);
        check.endedAs(x, 3, 4, 1);
        check.endedAs(x, 1, 3, 0);
    }

    private static void wrongInputs(Check check) {
        ChannelRows x = threeUnits(10);
        check.refused("ended, none yet", Check.ARGUMENT, () -> x.ended(0));
        check.refused("length, none yet", Check.ARGUMENT, () -> x.length(0));
        x.speak(0, 0, 1, 0);
        check.refused("ended below", Check.ARGUMENT, () -> x.ended(-1));
        check.refused("ended above", Check.ARGUMENT, () -> x.ended(1));
        check.refused("length below", Check.ARGUMENT, () -> x.length(-1));
        check.refused("length above", Check.ARGUMENT, () -> x.length(1));
        check.refused("ended far above", Check.ARGUMENT, () -> x.ended(Integer.MAX_VALUE));
        check.refused("length far below", Check.ARGUMENT, () -> x.length(Integer.MIN_VALUE));
    }
}
