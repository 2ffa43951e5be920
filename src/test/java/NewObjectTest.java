/** Promise 1: a new object is a day of no slots. */
public final class NewObjectTest {
    public static void main(String[] args) {
        Check check = new Check();
        ChannelRows x = new ChannelRows();
        check.due("used of no slots", 0, x.used(0, 0, 0));
        check.refused("used beyond no slots", Check.INDEX, () -> x.used(0, 0, 1));
        check.refused("on of no slots", Check.ARRAY_INDEX, () -> x.on(0, 0));
        check.refused("lose of no slots", Check.ARRAY_INDEX, () -> x.lose(0) ? 1 : 0);
        check.refused("no unit yet", Check.ARGUMENT, () -> x.hears(0, 0));
        check.refused("no message yet", Check.ARGUMENT, () -> x.ended(0));
        check.due("the first unit", 0, x.unit(1, 1, 1, 0));
        check.due("the first repeater", 0, x.repeater(1, 1, 1, 0));
        check.refused("hears of no slots", Check.ARRAY_INDEX, () -> x.hears(0, 0));
        check.refused("speak of no slots", Check.INDEX, () -> x.speak(0, 0, 1, 1));
        for (int a = 0; a < 5; a++) {
            check.due("no patch yet, channel " + a, true, x.patch(a, a + 1));
        }
        twoObjectsShareNothing(check);
        check.close();
    }

    private static void twoObjectsShareNothing(Check check) {
        ChannelRows one = new ChannelRows();
        ChannelRows other = new ChannelRows();
        one.day(5);
        one.unit(0, 0, 9, 0);
        one.speak(0, 0, 5, 0);
        one.lose(1);
        one.patch(0, 1);
        other.day(5);
        check.due("the other's first unit", 0, other.unit(0, 0, 9, 0));
        check.due("the other's first message", 0, other.speak(0, 1, 1, 0));
        check.due("the other's noise", true, other.lose(1));
        check.due("the other's patches", true, other.patch(0, 1));
        check.onInSlots(one, 0, 0, 0, 0, 0, 0, 0);
        check.onInSlots(other, 0, 0, -1, 0, -1, -1, -1);
    }
}
