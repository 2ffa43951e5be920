/** Promise 12: on. */
public final class OnTest {
    public static void main(String[] args) {
        Check check = new Check();
        beginsThatMeet(check);
        ranksThatBreakIn(check);
        breakInsInARow(check);
        lastSlots(check);
        wrongInputs(check);
        check.close();
    }

    private static ChannelRows units(int howMany, int slots) {
        ChannelRows x = new ChannelRows();
        x.day(slots);
        for (int i = 0; i < howMany; i++) {
            x.unit(i, 0, 100, 0);
        }
        return x;
    }

    private static void beginsThatMeet(Check check) {
        ChannelRows x = units(4, 10);
        x.speak(0, 1, 2, 3);
        x.speak(1, 1, 2, 4);
        check.onInSlots(x, 0, 0, -1, 1, 1, -1);
        x.speak(2, 1, 2, 4);
        check.onInSlots(x, 0, 0, -1, -1, -1, -1);
        x.speak(3, 1, 1, 5);
        check.onInSlots(x, 0, 0, -1, 3, -1, -1);
    }

    private static void ranksThatBreakIn(Check check) {
        ChannelRows x = units(4, 12);
        x.speak(0, 1, 8, 3);
        x.speak(1, 3, 2, 2);
        check.onInSlots(x, 0, 0, -1, 0, 0, 0, 0, 0, 0, 0, 0, -1);
        x.speak(1, 4, 2, 3);
        check.onInSlots(x, 0, 0, -1, 0, 0, 0, 0, 0, 0, 0, 0, -1);
        x.speak(1, 5, 2, 4);
        check.onInSlots(x, 0, 0, -1, 0, 0, 0, 0, 0, 3, 3, -1, -1);
        x.speak(2, 5, 1, 4);
        check.onInSlots(x, 0, 0, -1, 0, 0, 0, 0, 0, 0, 0, 0, -1);
        x.speak(3, 5, 1, 5);
        check.onInSlots(x, 0, 0, -1, 0, 0, 0, 0, 0, 5, -1, -1, -1);
    }

    private static void breakInsInARow(Check check) {
        ChannelRows x = units(4, 12);
        x.speak(0, 1, 9, 1);
        x.speak(1, 2, 9, 2);
        x.speak(2, 3, 9, 3);
        x.speak(3, 4, 2, 4);
        check.onInSlots(x, 0, 0, -1, 0, 0, 1, 2, 3, 3, -1);
        for (int m = 0; m < 3; m++) {
            check.due("cut in a row, " + m, 1, x.ended(m));
        }
        check.due("the same unit breaks in on itself", 4, x.speak(3, 5, 3, 5));
        check.onInSlots(x, 0, 4, 2, 3, 4, 4, 4, -1);
    }

    private static void lastSlots(Check check) {
        ChannelRows x = units(3, 8);
        x.speak(0, 1, 2, 5);
        x.speak(1, 2, 3, 5);
        check.onInSlots(x, 0, 0, -1, 0, 0, -1, -1);
        x.speak(2, 2, 3, 6);
        check.onInSlots(x, 0, 0, -1, 0, 0, 2, 2, 2, -1);
        x.speak(1, 3, 1, 0);
        check.onInSlots(x, 0, 0, -1, 0, 0, 2, 2, 2, -1);
        x.speak(1, 6, 9, 0);
        check.onInSlots(x, 0, 5, 2, 4, 4);
        x.speak(2, 7, 1, 1);
        check.onInSlots(x, 0, 5, 2, 4, 4);
    }

    private static void wrongInputs(Check check) {
        ChannelRows x = units(1, 3);
        check.refused("channel below", Check.ARGUMENT, () -> x.on(-1, 0));
        check.refused("channel above", Check.ARGUMENT, () -> x.on(6, 0));
        check.refused("no channel, no slot", Check.ARGUMENT, () -> x.on(6, 3));
        check.refused("slot below", Check.ARRAY_INDEX, () -> x.on(0, -1));
        check.refused("slot above", Check.ARRAY_INDEX, () -> x.on(0, 3));
        check.due("the last channel, the last slot", -1, x.on(5, 2));
    }
}
