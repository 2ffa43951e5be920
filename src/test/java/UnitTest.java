/** Promise 3: unit. */
public final class UnitTest {
    public static void main(String[] args) {
        Check check = new Check();
        ChannelRows x = new ChannelRows();
        x.day(4);
        wrongInputs(check, x);
        check.due("the nearest corner", 0, x.unit(0, 0, 0, 0));
        check.due("the farthest corner", 1, x.unit(9999, 9999, 9999, 5));
        for (int i = 2; i < 20; i++) {
            check.due("unit " + i, i, x.unit(i, i, i, i % 6));
        }
        check.refused("one unit too many", Check.UNSUPPORTED, () -> x.unit(0, 0, 0, 0));
        wrongInputs(check, x);
        check.due("the last unit is there", 0, x.hears(19, 0));
        check.refused("no unit behind it", Check.ARGUMENT, () -> x.hears(20, 0));
        check.due("repeaters are numbered apart", 0, x.repeater(0, 0, 0, 0));
        check.close();
    }

    private static void wrongInputs(Check check, ChannelRows x) {
        check.refused("x below", Check.INDEX, () -> x.unit(-1, 0, 0, 0));
        check.refused("x above", Check.INDEX, () -> x.unit(10000, 0, 0, 0));
        check.refused("y below", Check.INDEX, () -> x.unit(0, -1, 0, 0));
        check.refused("y above", Check.INDEX, () -> x.unit(0, 10000, 0, 0));
        check.refused("reach below", Check.INDEX, () -> x.unit(0, 0, -1, 0));
        check.refused("reach above", Check.INDEX, () -> x.unit(0, 0, 10000, 0));
        check.refused("channel below", Check.INDEX, () -> x.unit(0, 0, 0, -1));
        check.refused("channel above", Check.INDEX, () -> x.unit(0, 0, 0, 6));
        check.refused("all far off", Check.INDEX, () -> x.unit(Integer.MIN_VALUE,
                Integer.MAX_VALUE, Integer.MIN_VALUE, Integer.MAX_VALUE));
    }
}
