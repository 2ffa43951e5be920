/** Promise 10: lose. */
public final class LoseTest {
    public static void main(String[] args) {
        Check check = new Check();
        ChannelRows x = new ChannelRows();
        x.day(10);
        x.unit(0, 0, 10, 0);
        x.unit(0, 0, 10, 0);
        x.unit(0, 0, 10, 1);
        x.unit(0, 0, 10, 1);
        x.speak(0, 2, 3, 0);
        x.speak(2, 2, 3, 0);
        check.due("lost", true, x.lose(3));
        check.heardInSlots(x, 1, 1, 0, 101, 0, 103, 0);
        check.heardInSlots(x, 3, 1, 0, 201, 0, 203, 0);
        check.onInSlots(x, 0, 1, -1, 0, 0, 0, -1);
        check.endedAs(x, 0, 0, 3);
        check.due("noise uses nothing up", 3, x.used(0, 0, 10));
        check.unheardBy(x, 0, 1);
        check.due("lost no more", false, x.lose(3));
        check.heardInSlots(x, 1, 1, 0, 101, 102, 103, 0);
        check.unheardBy(x, 0);
        check.due("lost again", true, x.lose(3));
        check.due("another one beside it", true, x.lose(2));
        check.heardInSlots(x, 1, 1, 0, 0, 0, 103, 0);
        check.due("the first slot", true, x.lose(0));
        check.due("the last slot", true, x.lose(9));
        check.due("the last slot no more", false, x.lose(9));
        check.refused("behind the day", Check.ARRAY_INDEX, () -> x.lose(10));
        check.refused("before the day", Check.ARRAY_INDEX, () -> x.lose(-1));
        check.refused("far behind", Check.ARRAY_INDEX, () -> x.lose(Integer.MAX_VALUE));
        check.refused("far before", Check.ARRAY_INDEX, () -> x.lose(Integer.MIN_VALUE));
        check.close();
    }
}
