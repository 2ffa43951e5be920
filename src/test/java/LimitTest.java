/** Promise 7: limit. */
public final class LimitTest {
    public static void main(String[] args) {
        Check check = new Check();
        cutsWhatIsLonger(check);
        meetsTheDaysEnd(check);
        meetsARank(check);
        wrongInputs(check);
        check.close();
    }

    private static void cutsWhatIsLonger(Check check) {
        ChannelRows x = new ChannelRows();
        x.day(10);
        x.unit(0, 0, 9, 0);
        x.speak(0, 2, 3, 0);
        check.endedAs(x, 0, 0, 3);
        x.limit(4);
        check.endedAs(x, 0, 0, 3);
        x.limit(3);
        check.endedAs(x, 0, 0, 3);
        x.limit(2);
        check.endedAs(x, 0, 2, 2);
        check.onInSlots(x, 0, 1, -1, 0, 0, -1);
        x.limit(1);
        check.endedAs(x, 0, 2, 1);
        x.limit(0);
        check.endedAs(x, 0, 0, 3);
        x.limit(1);
        x.speak(0, 5, 0, 0);
        check.endedAs(x, 1, 0, 1);
        x.speak(0, 3, 9, 0);
        check.endedAs(x, 2, 2, 1);
        x.limit(1000);
        check.endedAs(x, 0, 0, 3);
        check.endedAs(x, 1, 0, 1);
        check.endedAs(x, 2, 3, 0);
    }

    private static void meetsTheDaysEnd(Check check) {
        ChannelRows x = new ChannelRows();
        x.day(10);
        x.unit(0, 0, 9, 0);
        x.speak(0, 7, 4, 0);
        check.endedAs(x, 0, 4, 3);
        x.limit(3);
        check.endedAs(x, 0, 2, 3);
        x.limit(4);
        check.endedAs(x, 0, 4, 3);
        x.limit(2);
        check.endedAs(x, 0, 2, 2);
    }

    private static void meetsARank(Check check) {
        ChannelRows x = new ChannelRows();
        x.day(10);
        x.unit(0, 0, 9, 0);
        x.unit(0, 0, 9, 0);
        x.limit(3);
        x.speak(0, 0, 8, 1);
        x.speak(1, 2, 2, 2);
        check.endedAs(x, 0, 2, 3);
        check.endedAs(x, 1, 0, 2);
        check.onInSlots(x, 0, 0, 0, 0, 0, 1, 1, -1);
        x.limit(4);
        check.endedAs(x, 0, 1, 3);
        x.limit(2);
        check.endedAs(x, 0, 2, 2);
        check.onInSlots(x, 0, 0, 0, 0, 1, 1, -1);
    }

    private static void wrongInputs(Check check) {
        ChannelRows x = new ChannelRows();
        x.day(10);
        x.unit(0, 0, 9, 0);
        x.limit(2);
        x.speak(0, 0, 5, 0);
        check.refused("below", Check.INDEX, () -> x.limit(-1));
        check.refused("above", Check.INDEX, () -> x.limit(1001));
        check.refused("far below", Check.INDEX, () -> x.limit(Integer.MIN_VALUE));
        check.refused("far above", Check.INDEX, () -> x.limit(Integer.MAX_VALUE));
        check.endedAs(x, 0, 2, 2);
    }
}
