/** Promise 7: limit. */
public final class LimitTest {
    public static void main(String[] args) {
        Cases cases = new Cases();
        cases.edges("the limit", 0, 1000, Check.INDEX, Worlds::busy, ChannelRows::limit);
        cases.refused("a new object takes no limit of -1", Check.INDEX, ChannelRows::new,
                x -> x.limit(-1));
        cases.refused("a new object takes no limit of 1001", Check.INDEX, ChannelRows::new,
                x -> x.limit(1001));
        cases.test("a refused limit leaves the one before", LimitTest::refusedLeavesIt);
        cases.test("there is none at first", check -> limited(check, -1, 0, 99));
        cases.test("limit 0 is none", check -> limited(check, 0, 0, 99));
        cases.test("limit 1", check -> limited(check, 1, 2, 1));
        cases.test("limit 2", check -> limited(check, 2, 2, 2));
        cases.test("limit 98, one less than the length", check -> limited(check, 98, 2, 98));
        cases.test("limit 99, the length itself", check -> limited(check, 99, 0, 99));
        cases.test("limit 100, one more than the length", check -> limited(check, 100, 0, 99));
        cases.test("limit 1000", check -> limited(check, 1000, 0, 99));
        cases.test("limit 1 and no words", check -> shortOnes(check, 0));
        cases.test("limit 1 and one word", check -> shortOnes(check, 1));
        cases.test("the last one that was told holds", LimitTest::lastOneHolds);
        cases.test("it holds for messages of before and of later", LimitTest::beforeAndLater);
        cases.test("what it cuts makes room for another one", LimitTest::makesRoom);
        cases.test("it leaves a lost one lost", LimitTest::leavesTheLost);
        cases.test("it holds in each group", LimitTest::inEachGroup);
        cases.close();
    }

    /** A message of 99 words, told behind the limit, and another one told before it; -1: no call. */
    private static void limited(Check check, int limit, int how, int slots) {
        ChannelRows x = Worlds.units(1, 300);
        x.speak(0, 0, 99, 0);
        if (limit >= 0) {
            x.limit(limit);
        }
        x.speak(0, 150, 99, 0);
        check.endedAs(x, 0, how, slots);
        check.endedAs(x, 1, how, slots);
        check.due("its last slot", 0, x.on(0, slots - 1));
        check.due("the slot behind", -1, x.on(0, slots));
    }

    private static void shortOnes(Check check, int words) {
        ChannelRows x = Worlds.units(1, 4);
        x.limit(1);
        x.speak(0, 1, words, 0);
        check.endedAs(x, 0, 0, 1);
        check.onInSlots(x, 0, 0, -1, 0, -1, -1);
    }

    private static void refusedLeavesIt(Check check) {
        ChannelRows x = Worlds.units(1, 10);
        x.limit(2);
        x.speak(0, 0, 5, 0);
        check.refused("below", Check.INDEX, () -> x.limit(-1));
        check.endedAs(x, 0, 2, 2);
        check.refused("above", Check.INDEX, () -> x.limit(1001));
        check.endedAs(x, 0, 2, 2);
    }

    private static void lastOneHolds(Check check) {
        ChannelRows x = Worlds.units(1, 10);
        x.speak(0, 2, 3, 0);
        x.limit(2);
        check.endedAs(x, 0, 2, 2);
        x.limit(1);
        check.endedAs(x, 0, 2, 1);
        x.limit(3);
        check.endedAs(x, 0, 0, 3);
        x.limit(1);
        x.limit(0);
        check.endedAs(x, 0, 0, 3);
    }

    private static void beforeAndLater(Check check) {
        ChannelRows x = Worlds.units(1, 10);
        x.speak(0, 0, 3, 0);
        x.limit(2);
        x.speak(0, 5, 3, 0);
        check.onInSlots(x, 0, 0, 0, 0, -1, -1, -1, 1, 1, -1);
        check.endedAs(x, 0, 2, 2);
        check.endedAs(x, 1, 2, 2);
    }

    private static void makesRoom(Check check) {
        ChannelRows x = Worlds.units(2, 10);
        x.speak(0, 0, 5, 5);
        x.speak(1, 2, 2, 0);
        check.endedAs(x, 1, 3, 0);
        x.limit(3);
        check.endedAs(x, 1, 3, 0);
        x.limit(2);
        check.endedAs(x, 1, 0, 2);
        check.onInSlots(x, 0, 0, 0, 0, 1, 1, -1);
    }

    private static void leavesTheLost(Check check) {
        ChannelRows x = Worlds.units(2, 10);
        x.speak(0, 0, 5, 5);
        x.speak(1, 0, 5, 5);
        x.limit(1);
        check.endedAs(x, 0, 3, 0);
        check.endedAs(x, 1, 3, 0);
    }

    private static void inEachGroup(Check check) {
        ChannelRows x = Worlds.day(10);
        for (int c = 0; c < 6; c++) {
            x.unit(0, 0, 0, c);
            x.speak(c, c, 4, 0);
        }
        x.limit(3);
        for (int c = 0; c < 6; c++) {
            check.endedAs(x, c, 2, 3);
            check.due("used", 3, x.used(c, 0, 10));
        }
    }
}
