/** Promise 6: patch. */
public final class PatchTest {
    public static void main(String[] args) {
        Cases cases = new Cases();
        cases.edges("a", 0, 5, Check.INDEX, Worlds::busy, (x, v) -> x.patch(v, 3));
        cases.edges("b", 0, 5, Check.INDEX, Worlds::busy, (x, v) -> x.patch(3, v));
        cases.refused("both are the same wrong one", Check.INDEX, Worlds::busy,
                x -> x.patch(6, 6));
        cases.refused("both are far off", Check.INDEX, Worlds::busy,
                x -> x.patch(Integer.MIN_VALUE, Integer.MAX_VALUE));
        cases.refused("a is wrong, all are one group", Check.INDEX, PatchTest::allJoined,
                x -> x.patch(-1, 0));
        cases.refused("b is wrong, all are one group", Check.INDEX, PatchTest::allJoined,
                x -> x.patch(5, 6));
        eachPair(cases);
        cases.test("joined by way of another one", PatchTest::byWayOfAnother);
        cases.test("two groups become one", PatchTest::twoGroups);
        cases.test("all six are one group, and no patch is left", PatchTest::sixInOneGroup);
        cases.test("one that was joined already changes nothing", PatchTest::nothingIsDone);
        cases.test("what was on apart is on together", PatchTest::joinsWhatIsOn);
        cases.test("begins that were apart meet", PatchTest::beginsMeet);
        cases.test("patched before there are messages", PatchTest::patchedFirst);
        cases.close();
    }

    private static ChannelRows allJoined() {
        ChannelRows x = Worlds.units(2, 8);
        for (int a = 0; a < 5; a++) {
            x.patch(a, a + 1);
        }
        x.speak(0, 0, 2, 0);
        return x;
    }

    private static void eachPair(Cases cases) {
        for (int one = 0; one < 6; one++) {
            for (int other = 0; other < 6; other++) {
                int a = one;
                int b = other;
                cases.test("patch of " + a + " and " + b, check -> pair(check, a, b));
            }
        }
    }

    private static void pair(Check check, int a, int b) {
        ChannelRows x = Worlds.day(2);
        check.due("not in one group before", a != b, x.patch(a, b));
        check.due("again", false, x.patch(a, b));
        check.due("the other way round", false, x.patch(b, a));
        x.unit(0, 0, 0, a);
        x.speak(0, 0, 1, 0);
        for (int c = 0; c < 6; c++) {
            check.due("on(" + c + ", 0)", c == a || c == b ? 0 : -1, x.on(c, 0));
        }
    }

    private static void byWayOfAnother(Check check) {
        ChannelRows x = new ChannelRows();
        check.due("1 and 2", true, x.patch(1, 2));
        check.due("3 and 2", true, x.patch(3, 2));
        check.due("1 and 3", false, x.patch(1, 3));
        check.due("3 and 1", false, x.patch(3, 1));
        check.due("0 is not of them", true, x.patch(0, 1));
        check.due("0 and 3", false, x.patch(0, 3));
    }

    private static void twoGroups(Check check) {
        ChannelRows x = new ChannelRows();
        check.due("0 and 5", true, x.patch(0, 5));
        check.due("1 and 4", true, x.patch(1, 4));
        check.due("5 and 1", true, x.patch(5, 1));
        check.due("0 and 4", false, x.patch(0, 4));
        check.due("0 and 1", false, x.patch(0, 1));
        check.due("5 and 4", false, x.patch(5, 4));
        check.due("2 is not of them", true, x.patch(4, 2));
        check.due("3 is not of them", true, x.patch(3, 2));
    }

    private static void sixInOneGroup(Check check) {
        ChannelRows x = allJoined();
        for (int a = 0; a < 6; a++) {
            for (int b = 0; b < 6; b++) {
                check.due("patch(" + a + ", " + b + ")", false, x.patch(a, b));
            }
            check.due("on(" + a + ", 1)", 0, x.on(a, 1));
            check.due("used", 2, x.used(a, 0, 8));
        }
    }

    private static void nothingIsDone(Check check) {
        ChannelRows x = Worlds.busy();
        check.due("1 and 0", false, x.patch(1, 0));
        check.due("4 and 4", false, x.patch(4, 4));
        Standing.areAlike(check, Worlds.busy(), x);
    }

    private static ChannelRows threeChannels() {
        ChannelRows x = Worlds.day(8);
        x.unit(0, 0, 9, 0);
        x.unit(1, 0, 9, 1);
        x.unit(2, 0, 9, 2);
        x.speak(0, 0, 6, 1);
        x.speak(1, 2, 2, 2);
        x.speak(2, 2, 2, 2);
        return x;
    }

    private static void joinsWhatIsOn(Check check) {
        ChannelRows x = threeChannels();
        check.onInSlots(x, 0, 0, 0, 0, 0, 0, 0, 0, -1, -1);
        check.onInSlots(x, 1, 0, -1, -1, 1, 1, -1, -1, -1, -1);
        check.heardInSlots(x, 1, 0, 0, 0, 0);
        x.patch(1, 0);
        check.onInSlots(x, 0, 0, 0, 0, 0, 1, 1, -1, -1, -1);
        check.onInSlots(x, 1, 0, 0, 0, 0, 1, 1, -1, -1, -1);
        check.onInSlots(x, 2, 0, -1, -1, 2, 2, -1, -1, -1, -1);
        check.endedAs(x, 0, 1, 3);
        check.heardInSlots(x, 1, 0, 101, 102, 103, 0, 0);
        check.heardInSlots(x, 0, 0, 0, 0, 0, 201, 202, 0);
        check.unheardBy(x, 0);
    }

    private static void beginsMeet(Check check) {
        ChannelRows x = threeChannels();
        x.patch(1, 0);
        x.patch(2, 1);
        check.onInSlots(x, 2, 0, 0, 0, 0, 0, 0, 0, -1, -1);
        check.endedAs(x, 0, 0, 6);
        check.endedAs(x, 1, 3, 0);
        check.endedAs(x, 2, 3, 0);
    }

    private static void patchedFirst(Check check) {
        ChannelRows x = Worlds.day(4);
        x.patch(0, 5);
        x.unit(0, 0, 9, 0);
        x.unit(0, 0, 9, 5);
        x.speak(0, 0, 3, 0);
        x.speak(1, 1, 1, 0);
        check.onInSlots(x, 5, 0, 0, 0, 0, -1);
        check.endedAs(x, 1, 3, 0);
    }
}
