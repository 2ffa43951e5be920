/** Promise 6: patch. */
public final class PatchTest {
    public static void main(String[] args) {
        Check check = new Check();
        groups(check);
        joinsWhatIsOn(check);
        wrongInputs(check);
        check.close();
    }

    private static void groups(Check check) {
        ChannelRows x = new ChannelRows();
        check.due("one with itself", false, x.patch(5, 5));
        check.due("0 and 5", true, x.patch(0, 5));
        check.due("5 and 0 again", false, x.patch(5, 0));
        check.due("1 and 2", true, x.patch(1, 2));
        check.due("3 and 2", true, x.patch(3, 2));
        check.due("1 and 3, by way of 2", false, x.patch(1, 3));
        check.due("two groups become one", true, x.patch(3, 5));
        check.due("0 and 1, by way of all", false, x.patch(0, 1));
        check.due("4 is alone still", true, x.patch(4, 1));
        check.due("all are one group", false, x.patch(4, 0));
    }

    private static void joinsWhatIsOn(Check check) {
        ChannelRows x = new ChannelRows();
        x.day(8);
        x.unit(0, 0, 9, 0);
        x.unit(1, 0, 9, 1);
        x.unit(2, 0, 9, 2);
        x.speak(0, 0, 6, 1);
        x.speak(1, 2, 2, 2);
        x.speak(2, 2, 2, 2);
        check.onInSlots(x, 0, 0, 0, 0, 0, 0, 0, 0, -1, -1);
        check.onInSlots(x, 1, 0, -1, -1, 1, 1, -1, -1, -1, -1);
        check.heardInSlots(x, 1, 0, 0, 0, 0);
        x.patch(1, 0);
        check.onInSlots(x, 0, 0, 0, 0, 0, 1, 1, -1, -1, -1);
        check.onInSlots(x, 1, 0, 0, 0, 0, 1, 1, -1, -1, -1);
        check.onInSlots(x, 2, 0, -1, -1, 2, 2, -1, -1, -1, -1);
        check.endedAs(x, 0, 1, 3);
        check.heardInSlots(x, 1, 0, 101, 102, 103, 0, 0);
        check.heardInSlots(x, 0, 0, 0, 0, 0, 201, 202, 0);
        check.unheardBy(x, 0);
        x.patch(2, 1);
        check.onInSlots(x, 2, 0, 0, 0, 0, 0, 0, 0, -1, -1);
        check.endedAs(x, 0, 0, 6);
        check.endedAs(x, 1, 3, 0);
        check.endedAs(x, 2, 3, 0);
    }

    private static void wrongInputs(Check check) {
        ChannelRows x = new ChannelRows();
        check.refused("a below", Check.INDEX, () -> x.patch(-1, 0));
        check.refused("a above", Check.INDEX, () -> x.patch(6, 0));
        check.refused("b below", Check.INDEX, () -> x.patch(0, -1));
        check.refused("b above", Check.INDEX, () -> x.patch(0, 6));
        check.refused("both the same wrong one", Check.INDEX, () -> x.patch(6, 6));
        check.refused("far off", Check.INDEX,
                () -> x.patch(Integer.MIN_VALUE, Integer.MAX_VALUE));
    }
}
