/** What it is: an object answers 512 calls, full as it may be. */
public final class CallsTest {
    public static void main(String[] args) {
        Cases cases = new Cases();
        cases.test("the 512th call answers, of a full object", CallsTest::fullObject);
        cases.test("the 512th call tells the last message", CallsTest::lastCallTells);
        cases.test("512 days in a row", CallsTest::days);
        cases.test("512 refused calls in a row change nothing", CallsTest::refusals);
        cases.close();
    }

    private static void fullObject(Check check) {
        ChannelRows x = Worlds.fullOfMessages();
        int calls = 1 + 20 + 60;
        for (; calls < 511; calls++) {
            int turn = calls;
            check.refused("call " + calls, Check.UNSUPPORTED, () -> x.speak(turn % 20, 6, 1, 0));
        }
        check.due("the last call", 101, x.hears(1, 7));
    }

    private static void lastCallTells(Check check) {
        ChannelRows x = Worlds.units(20, 1000);
        for (int m = 0; m < 59; m++) {
            x.speak(m % 20, 10 * m, 99, m % 10);
        }
        for (int calls = 1 + 20 + 59; calls < 511; calls++) {
            x.limit(calls % 2);
        }
        check.due("the last call", 59, x.speak(0, 999, 99, 9));
    }

    private static void days(Check check) {
        ChannelRows x = new ChannelRows();
        for (int calls = 0; calls < 511; calls++) {
            x.day(calls % 2 == 0 ? 1000 : 0);
        }
        check.due("the last call", -1, x.on(5, 999));
    }

    private static void refusals(Check check) {
        ChannelRows x = Worlds.busy();
        for (int calls = 14; calls < 511; calls++) {
            check.refused("a second begin", Check.STATE, () -> x.speak(0, 1, 99, 9));
        }
        check.due("the last call", 102, x.hears(1, 2));
    }
}
