/** Promise 13: ended (when a message ends how: TermsAirTest). */
public final class EndedTest {
    public static void main(String[] args) {
        Cases cases = new Cases();
        cases.edges("message", 0, 3, Check.ARGUMENT, Worlds::busy, ChannelRows::ended);
        cases.edges("message of 60:", 0, 59, Check.ARGUMENT, Worlds::fullOfMessages,
                ChannelRows::ended);
        cases.refused("there are no messages", Check.ARGUMENT, () -> Worlds.units(2, 8),
                x -> x.ended(0));
        cases.refused("there are no slots", Check.ARGUMENT, ChannelRows::new, x -> x.ended(0));
        for (int how = 0; how < 5; how++) {
            int message = how;
            cases.test("ended " + how, check ->
                    check.due("ended", message, everyEnding().ended(message)));
        }
        cases.test("it is as of now: the limit", EndedTest::limitTurnsIt);
        cases.test("it is as of now: patches", EndedTest::patchTurnsIt);
        cases.test("noise and goers do not turn it", EndedTest::whatDoesNotTurnIt);
        cases.close();
    }

    /** Each message bears the number of how it ended. */
    private static ChannelRows everyEnding() {
        ChannelRows x = Worlds.units(4, 20);
        x.limit(5);
        x.speak(0, 0, 5, 5);
        x.speak(0, 6, 4, 1);
        x.speak(2, 10, 6, 5);
        x.speak(3, 10, 1, 4);
        x.speak(1, 19, 2, 0);
        x.speak(3, 7, 1, 2);
        return x;
    }

    private static void limitTurnsIt(Check check) {
        ChannelRows x = everyEnding();
        x.limit(1);
        int[] due = {2, 2, 2, 3, 2, 0};
        for (int m = 0; m < due.length; m++) {
            check.due("ended(" + m + ")", due[m], x.ended(m));
        }
    }

    private static void patchTurnsIt(Check check) {
        ChannelRows x = Worlds.day(4);
        x.unit(0, 0, 0, 0);
        x.unit(0, 0, 0, 1);
        x.speak(0, 0, 3, 0);
        x.speak(1, 1, 1, 1);
        check.due("apart", 0, x.ended(0));
        x.patch(0, 1);
        check.due("together", 1, x.ended(0));
    }

    private static void whatDoesNotTurnIt(Check check) {
        ChannelRows x = everyEnding();
        x.lose(0);
        x.lose(19);
        x.go(0, 9999, 9999, 5);
        x.go(3, 9999, 9999, 5);
        x.repeater(0, 0, 0, 0);
        for (int m = 0; m < 5; m++) {
            check.due("ended(" + m + ")", m, x.ended(m));
        }
    }
}
