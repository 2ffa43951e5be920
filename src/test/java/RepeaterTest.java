/** Promise 5: repeater. */
public final class RepeaterTest {
    public static void main(String[] args) {
        Check check = new Check();
        numbersAndWrongInputs(check);
        carriesOn(check);
        isNoChain(check);
        worksInTheWholeGroup(check);
        check.close();
    }

    private static void numbersAndWrongInputs(Check check) {
        ChannelRows x = new ChannelRows();
        wrongInputs(check, x);
        check.due("the nearest corner", 0, x.repeater(0, 0, 0, 0));
        check.due("the farthest corner", 1, x.repeater(9999, 9999, 9999, 5));
        for (int i = 2; i < 8; i++) {
            check.due("repeater " + i, i, x.repeater(i, i, i, i % 6));
        }
        check.refused("one too many", Check.UNSUPPORTED, () -> x.repeater(0, 0, 0, 0));
        wrongInputs(check, x);
        check.due("units are numbered apart", 0, x.unit(0, 0, 0, 0));
    }

    private static void wrongInputs(Check check, ChannelRows x) {
        check.refused("x below", Check.INDEX, () -> x.repeater(-1, 0, 0, 0));
        check.refused("x above", Check.INDEX, () -> x.repeater(10000, 0, 0, 0));
        check.refused("y below", Check.INDEX, () -> x.repeater(0, -1, 0, 0));
        check.refused("y above", Check.INDEX, () -> x.repeater(0, 10000, 0, 0));
        check.refused("reach below", Check.INDEX, () -> x.repeater(0, 0, -1, 0));
        check.refused("reach above", Check.INDEX, () -> x.repeater(0, 0, 10000, 0));
        check.refused("channel below", Check.INDEX, () -> x.repeater(0, 0, 0, -1));
        check.refused("channel above", Check.INDEX, () -> x.repeater(0, 0, 0, 6));
    }

    private static void carriesOn(Check check) {
        ChannelRows x = new ChannelRows();
        x.day(3);
        x.unit(0, 0, 5, 0);
        x.unit(13, 4, 0, 0);
        x.unit(14, 4, 0, 0);
        x.speak(0, 1, 1, 0);
        x.repeater(3, 5, 9999, 0);
        check.due("a repeater too far from the speaker", 0, x.hears(1, 1));
        x.repeater(3, 4, 10, 0);
        check.due("just in the repeater's reach", 101, x.hears(1, 1));
        check.due("just out of the repeater's reach", 0, x.hears(2, 1));
        check.unheardBy(x, 0, 2);
    }

    private static void isNoChain(Check check) {
        ChannelRows x = new ChannelRows();
        x.day(3);
        x.unit(0, 0, 5, 0);
        x.unit(20, 0, 0, 0);
        x.speak(0, 1, 1, 0);
        x.repeater(5, 0, 8, 0);
        x.repeater(13, 0, 8, 0);
        check.due("a repeater does not feed another", 0, x.hears(1, 1));
    }

    private static void worksInTheWholeGroup(Check check) {
        ChannelRows x = new ChannelRows();
        x.day(3);
        x.unit(0, 0, 5, 0);
        x.unit(20, 0, 0, 0);
        x.speak(0, 1, 1, 0);
        x.repeater(5, 0, 15, 2);
        check.due("a repeater of another channel", 0, x.hears(1, 1));
        x.patch(1, 2);
        check.due("a repeater of another group", 0, x.hears(1, 1));
        x.patch(0, 1);
        check.due("a repeater of the group", 101, x.hears(1, 1));
    }
}
