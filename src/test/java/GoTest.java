/** Promise 4: go. */
public final class GoTest {
    public static void main(String[] args) {
        Cases cases = new Cases();
        numbers(cases);
        cases.refused("there are no units", Check.ARGUMENT, Worlds::emptyDay,
                x -> x.go(0, 0, 0, 0));
        cases.refused("no unit, and wrong numbers", Check.ARGUMENT, Worlds::busy,
                x -> x.go(4, -1, 10000, 6));
        cases.refused("a wrong point and a wrong channel", Check.INDEX, Worlds::busy,
                x -> x.go(3, 10000, -1, -1));
        cases.test("the last of 20 goes", GoTest::lastOfAll);
        cases.test("a listener goes to the edge of reach, and past it", GoTest::listenerGoes);
        cases.test("a speaker goes, and its reach with it", GoTest::speakerGoes);
        cases.test("a listener leaves the channel", GoTest::leavesTheChannel);
        cases.test("a message stays on its channel", GoTest::messageStays);
        cases.test("its next message is on the new channel", GoTest::nextMessageMoves);
        cases.test("its reach stays", GoTest::reachStays);
        cases.test("going where it is changes nothing", GoTest::goesNowhere);
        cases.test("the others stay where they are", GoTest::othersStay);
        cases.test("a unit goes in a day of no slots too", GoTest::inADayOfNone);
        cases.close();
    }

    /** The other numbers lead far away, so that half of a refused going would show. */
    private static void numbers(Cases cases) {
        cases.edges("unit", 0, 3, Check.ARGUMENT, Worlds::busy, (x, v) -> x.go(v, 9000, 9000, 3));
        cases.edges("unit of 20:", 0, 19, Check.ARGUMENT, Worlds::fullOfUnits,
                (x, v) -> x.go(v, 9000, 9000, 3));
        cases.edges("x", 0, 9999, Check.INDEX, Worlds::busy, (x, v) -> x.go(1, v, 9000, 3));
        cases.edges("y", 0, 9999, Check.INDEX, Worlds::busy, (x, v) -> x.go(1, 9000, v, 3));
        cases.edges("channel", 0, 5, Check.INDEX, Worlds::busy, (x, v) -> x.go(1, 9000, 9000, v));
    }

    /** Unit 0, of reach 10, says two words in slots 1 and 2; unit 1 is just in its reach. */
    private static ChannelRows pair() {
        ChannelRows x = Worlds.day(6);
        x.unit(0, 0, 10, 0);
        x.unit(10, 0, 10, 0);
        x.speak(0, 1, 2, 1);
        return x;
    }

    private static void lastOfAll(Check check) {
        ChannelRows x = Worlds.units(20, 2);
        x.speak(0, 0, 1, 0);
        check.due("before", 101, x.hears(19, 0));
        x.go(19, 9999, 9999, 0);
        check.due("behind", 0, x.hears(19, 0));
        check.due("the one before it", 101, x.hears(18, 0));
    }

    private static void listenerGoes(Check check) {
        ChannelRows x = pair();
        check.heardInSlots(x, 1, 0, 0, 101, 102, 0);
        x.go(1, 11, 0, 0);
        check.heardInSlots(x, 1, 0, 0, 0, 0, 0);
        check.unheardBy(x, 0, 1);
        x.go(1, 0, 10, 0);
        check.heardInSlots(x, 1, 0, 0, 101, 102, 0);
        x.go(1, 0, 11, 0);
        check.heardInSlots(x, 1, 0, 0, 0, 0, 0);
    }

    private static void speakerGoes(Check check) {
        ChannelRows x = pair();
        x.go(0, 21, 0, 0);
        check.heardInSlots(x, 1, 0, 0, 0, 0, 0);
        x.go(0, 20, 0, 0);
        check.heardInSlots(x, 1, 0, 0, 101, 102, 0);
    }

    private static void leavesTheChannel(Check check) {
        ChannelRows x = pair();
        x.go(1, 1, 0, 3);
        check.heardInSlots(x, 1, 0, 0, 0, 0, 0);
        check.unheardBy(x, 0);
        x.go(1, 1, 0, 0);
        check.heardInSlots(x, 1, 0, 0, 101, 102, 0);
    }

    private static void messageStays(Check check) {
        ChannelRows x = pair();
        x.go(0, 1, 0, 3);
        check.onInSlots(x, 0, 0, -1, 0, 0, -1);
        check.onInSlots(x, 3, 0, -1, -1, -1, -1);
        check.heardInSlots(x, 1, 0, 0, 101, 102, 0);
        check.heardInSlots(x, 0, 0, 0, 0, 0, 0);
        check.unheardBy(x, 0);
    }

    private static void nextMessageMoves(Check check) {
        ChannelRows x = pair();
        x.go(0, 1, 0, 3);
        check.due("the number", 1, x.speak(0, 2, 1, 1));
        check.onInSlots(x, 3, 0, -1, -1, 1, -1);
        check.onInSlots(x, 0, 0, -1, 0, 0, -1);
    }

    private static void reachStays(Check check) {
        ChannelRows x = pair();
        x.go(0, 9999, 9999, 5);
        x.go(0, 0, 0, 0);
        check.heardInSlots(x, 1, 0, 0, 101, 102, 0);
        x.go(1, 10, 1, 0);
        check.heardInSlots(x, 1, 0, 0, 0, 0, 0);
    }

    private static void goesNowhere(Check check) {
        ChannelRows x = Worlds.busy();
        x.go(1, 10, 0, 0);
        x.go(3, 0, 0, 2);
        Standing.areAlike(check, Worlds.busy(), x);
    }

    private static void othersStay(Check check) {
        ChannelRows x = Worlds.units(3, 2);
        x.repeater(0, 0, 100, 0);
        x.speak(0, 0, 1, 0);
        x.go(1, 9999, 9999, 5);
        check.due("unit 1", 0, x.hears(1, 0));
        check.due("unit 2", 101, x.hears(2, 0));
        x.go(2, 100, 0, 0);
        check.due("unit 2, in the repeater's reach", 101, x.hears(2, 0));
    }

    private static void inADayOfNone(Check check) {
        ChannelRows x = Worlds.units(1, 0);
        x.go(0, 9999, 0, 5);
        check.refused("no slots still", Check.ARRAY_INDEX, () -> x.hears(0, 0));
    }
}
