/** Promise 4: go. */
public final class GoTest {
    public static void main(String[] args) {
        Check check = new Check();
        ChannelRows x = new ChannelRows();
        x.day(6);
        x.unit(0, 0, 10, 0);
        x.unit(10, 0, 10, 0);
        x.speak(0, 1, 2, 1);
        check.heardInSlots(x, 1, 0, 0, 101, 102, 0);

        x.go(1, 11, 0, 0);
        check.heardInSlots(x, 1, 0, 0, 0, 0, 0);
        check.unheardBy(x, 0, 1);

        x.go(0, 1, 0, 0);
        check.heardInSlots(x, 1, 0, 0, 101, 102, 0);

        x.go(1, 1, 0, 3);
        check.heardInSlots(x, 1, 0, 0, 0, 0, 0);
        check.unheardBy(x, 0);

        x.go(0, 1, 0, 3);
        check.onInSlots(x, 0, 0, -1, 0, 0, -1);
        check.onInSlots(x, 3, 0, -1, -1, -1, -1);
        x.go(1, 0, 0, 0);
        check.heardInSlots(x, 1, 0, 0, 101, 102, 0);
        check.heardInSlots(x, 0, 0, 0, 0, 0, 0);
        check.due("the next one is on the new channel", 1, x.speak(0, 2, 1, 1));
        check.onInSlots(x, 3, 0, -1, -1, 1, -1);
        check.onInSlots(x, 0, 0, -1, 0, 0, -1);

        x.go(0, 9999, 9999, 5);
        x.go(0, 0, 0, 0);
        wrongInputs(check, x);
        check.heardInSlots(x, 1, 0, 0, 101, 102, 0);
        check.close();
    }

    private static void wrongInputs(Check check, ChannelRows x) {
        check.refused("unit below", Check.ARGUMENT, () -> x.go(-1, 0, 0, 0));
        check.refused("unit above", Check.ARGUMENT, () -> x.go(2, 0, 0, 0));
        check.refused("no unit and no point", Check.ARGUMENT, () -> x.go(2, -1, 0, 9));
        check.refused("x below", Check.INDEX, () -> x.go(1, -1, 0, 0));
        check.refused("x above", Check.INDEX, () -> x.go(1, 10000, 0, 0));
        check.refused("y below", Check.INDEX, () -> x.go(1, 0, -1, 0));
        check.refused("y above", Check.INDEX, () -> x.go(1, 0, 10000, 0));
        check.refused("channel below", Check.INDEX, () -> x.go(1, 5000, 5000, -1));
        check.refused("channel above", Check.INDEX, () -> x.go(1, 5000, 5000, 6));
    }
}
