/** Promise 2: day. */
public final class DayTest {
    public static void main(String[] args) {
        Check check = new Check();
        edges(check);
        forgetsAll(check);
        wrongDaysChangeNothing(check);
        check.close();
    }

    private static void edges(Check check) {
        ChannelRows x = new ChannelRows();
        x.day(1000);
        check.due("the last slot of the longest day", -1, x.on(0, 999));
        check.refused("a slot behind the longest day", Check.ARRAY_INDEX, () -> x.on(0, 1000));
        check.due("the longest day", 0, x.used(0, 0, 1000));
        x.day(1);
        check.due("the only slot", -1, x.on(0, 0));
        check.refused("behind the only slot", Check.ARRAY_INDEX, () -> x.on(0, 1));
        x.day(0);
        check.refused("a slot of an empty day", Check.ARRAY_INDEX, () -> x.on(0, 0));
        check.refused("too many slots", Check.ARGUMENT, () -> x.day(1001));
        check.refused("far too many slots", Check.ARGUMENT, () -> x.day(Integer.MAX_VALUE));
        check.refused("fewer than none", Check.NEGATIVE_SIZE, () -> x.day(-1));
        check.refused("far fewer than none", Check.NEGATIVE_SIZE, () -> x.day(Integer.MIN_VALUE));
    }

    private static void forgetsAll(Check check) {
        ChannelRows x = new ChannelRows();
        x.day(10);
        x.unit(0, 0, 100, 0);
        x.unit(0, 0, 100, 1);
        x.repeater(0, 0, 9999, 0);
        x.patch(0, 1);
        x.limit(1);
        x.lose(3);
        x.speak(0, 2, 5, 1);
        x.day(10);
        check.refused("a forgotten unit", Check.ARGUMENT, () -> x.hears(0, 0));
        check.refused("a forgotten message", Check.ARGUMENT, () -> x.length(0));
        check.onInSlots(x, 0, 0, -1, -1, -1, -1, -1, -1, -1, -1, -1, -1);
        check.due("the first unit again", 0, x.unit(0, 0, 10, 0));
        check.due("the second unit again", 1, x.unit(11, 0, 10, 0));
        check.due("the first message again", 0, x.speak(0, 2, 3, 1));
        check.endedAs(x, 0, 0, 3);
        check.unheardBy(x, 0, 1);
        check.due("the first repeater again", 0, x.repeater(5, 0, 6, 0));
        check.due("noise is forgotten", 102, x.hears(1, 3));
        check.due("the patch is forgotten", true, x.patch(1, 0));
        check.due("noise begins again", true, x.lose(3));
    }

    private static void wrongDaysChangeNothing(Check check) {
        ChannelRows x = new ChannelRows();
        x.day(6);
        x.unit(0, 0, 10, 0);
        x.speak(0, 1, 2, 0);
        check.refused("day(1001)", Check.ARGUMENT, () -> x.day(1001));
        check.refused("day(-1)", Check.NEGATIVE_SIZE, () -> x.day(-1));
        check.onInSlots(x, 0, 0, -1, 0, 0, -1, -1, -1);
        check.refused("the day's end stays", Check.ARRAY_INDEX, () -> x.on(0, 6));
    }
}
