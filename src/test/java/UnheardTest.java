/** Promise 15: unheard. */
public final class UnheardTest {
    public static void main(String[] args) {
        Check check = new Check();
        whoMissedIt(check);
        thoseOfTheGroup(check);
        onlySlotsThatWereOn(check);
        wrongInputs(check);
        check.close();
    }

    private static ChannelRows fiveInARow() {
        ChannelRows x = new ChannelRows();
        x.day(20);
        for (int i = 0; i < 5; i++) {
            x.unit(10 * i, 0, 10, 0);
        }
        return x;
    }

    private static void whoMissedIt(Check check) {
        ChannelRows x = fiveInARow();
        x.speak(2, 1, 3, 1);
        check.unheardBy(x, 0, 0, 4);
        check.due("far behind the last", -1, x.unheard(0, Integer.MAX_VALUE));
        x.lose(3);
        check.unheardBy(x, 0, 0, 1, 3, 4);
        x.lose(3);
        x.repeater(20, 0, 20, 0);
        check.unheardBy(x, 0);
        x.speak(4, 1, 1, 1);
        check.unheardBy(x, 0, 0, 1, 3, 4);
        check.unheardBy(x, 1, 0, 1, 2, 3);
    }

    private static void thoseOfTheGroup(Check check) {
        ChannelRows x = fiveInARow();
        x.speak(2, 1, 3, 1);
        x.go(0, 0, 0, 1);
        check.unheardBy(x, 0, 4);
        x.patch(1, 0);
        check.unheardBy(x, 0, 0, 4);
        x.go(2, 20, 0, 5);
        check.unheardBy(x, 0, 0, 4);
        x.go(2, 30, 0, 5);
        check.unheardBy(x, 0, 0, 1);
        x.unit(90, 0, 0, 5);
        check.unheardBy(x, 0, 0, 1);
        x.unit(90, 0, 0, 1);
        check.unheardBy(x, 0, 0, 1, 6);
    }

    private static void onlySlotsThatWereOn(Check check) {
        ChannelRows x = fiveInARow();
        x.speak(1, 1, 9, 1);
        x.speak(2, 4, 1, 2);
        x.lose(5);
        check.unheardBy(x, 0, 3, 4);
        check.unheardBy(x, 1, 0, 1, 3, 4);
        x.lose(4);
        check.unheardBy(x, 0, 0, 2, 3, 4);
        x.lose(4);
        x.lose(0);
        check.unheardBy(x, 0, 3, 4);
        x.speak(1, 19, 2, 0);
        x.speak(2, 19, 2, 1);
        check.unheardBy(x, 2, 0, 2, 3, 4);
        check.unheardBy(x, 3, 0, 4);
        x.speak(0, 18, 2, 0);
        check.endedAs(x, 3, 4, 0);
        check.unheardBy(x, 3, 0, 1, 3, 4);
        x.speak(4, 10, 0, 0);
        check.unheardBy(x, 5, 0, 1, 2);
        x.lose(10);
        check.unheardBy(x, 5, 0, 1, 2, 3);
    }

    private static void wrongInputs(Check check) {
        ChannelRows x = fiveInARow();
        check.refused("none yet", Check.ARGUMENT, () -> x.unheard(0, 0));
        x.speak(2, 1, 3, 1);
        check.refused("message below", Check.ARGUMENT, () -> x.unheard(-1, 0));
        check.refused("message above", Check.ARGUMENT, () -> x.unheard(1, 0));
        check.refused("no message, no place", Check.ARGUMENT, () -> x.unheard(1, -1));
        check.refused("place below", Check.INDEX, () -> x.unheard(0, -1));
        check.refused("place far below", Check.INDEX, () -> x.unheard(0, Integer.MIN_VALUE));
    }
}
