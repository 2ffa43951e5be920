/** Promise 16: used. */
public final class UsedTest {
    public static void main(String[] args) {
        Check check = new Check();
        ChannelRows x = new ChannelRows();
        x.day(20);
        x.unit(0, 0, 10, 0);
        x.unit(0, 0, 10, 1);
        x.unit(0, 0, 10, 0);
        x.speak(0, 2, 4, 1);
        x.speak(1, 4, 4, 2);
        x.speak(0, 18, 9, 1);
        x.speak(2, 3, 9, 0);
        parts(check, x);
        check.due("the other channel", 4, x.used(1, 0, 20));
        check.due("a silent channel", 0, x.used(5, 0, 20));
        x.lose(3);
        check.due("noise does not count", 6, x.used(0, 0, 20));
        x.patch(0, 1);
        check.due("the group, by one channel", 9, x.used(0, 0, 20));
        check.due("the group, by the other", 9, x.used(1, 0, 20));
        check.due("where one takes over", 7, x.used(1, 2, 9));
        x.limit(1);
        check.due("with a limit", 4, x.used(0, 0, 20));
        wrongInputs(check, x);
        check.close();
    }

    private static void parts(Check check, ChannelRows x) {
        check.due("the whole day", 6, x.used(0, 0, 20));
        check.due("up to its begin", 0, x.used(0, 0, 2));
        check.due("its first slot", 1, x.used(0, 0, 3));
        check.due("inside it", 2, x.used(0, 3, 5));
        check.due("its last slot", 1, x.used(0, 5, 9));
        check.due("from behind it", 0, x.used(0, 6, 18));
        check.due("the day's last slot", 1, x.used(0, 19, 20));
        check.due("nothing inside it", 0, x.used(0, 3, 3));
        check.due("nothing at the end", 0, x.used(0, 20, 20));
    }

    private static void wrongInputs(Check check, ChannelRows x) {
        check.refused("channel below", Check.ARGUMENT, () -> x.used(-1, 0, 1));
        check.refused("channel above", Check.ARGUMENT, () -> x.used(6, 0, 1));
        check.refused("no channel, no slots", Check.ARGUMENT, () -> x.used(6, 5, 1));
        check.refused("from below", Check.INDEX, () -> x.used(0, -1, 1));
        check.refused("to above", Check.INDEX, () -> x.used(0, 0, 21));
        check.refused("both above", Check.INDEX, () -> x.used(0, 21, 21));
        check.refused("both below", Check.INDEX, () -> x.used(0, -1, -1));
        check.refused("the wrong way round", Check.INDEX, () -> x.used(0, 5, 4));
        check.refused("far off", Check.INDEX,
                () -> x.used(0, Integer.MIN_VALUE, Integer.MAX_VALUE));
    }
}
