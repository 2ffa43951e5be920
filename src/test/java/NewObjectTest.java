/** Promise 1: a new object is a day of no slots. */
public final class NewObjectTest {
    public static void main(String[] args) {
        Cases cases = new Cases();
        noSlots(cases);
        noUnits(cases);
        noMessages(cases);
        cases.test("it has no patches", NewObjectTest::noPatches);
        cases.test("it takes 20 units, then no more", NewObjectTest::roomForUnits);
        cases.test("it takes 8 repeaters, then no more", NewObjectTest::roomForRepeaters);
        cases.test("it takes a limit, which a new day forgets", NewObjectTest::limitIsTaken);
        cases.test("it is as after day(0)", NewObjectTest::asAfterDayOfNone);
        cases.test("two objects share nothing", NewObjectTest::twoObjectsShareNothing);
        cases.close();
    }

    private static ChannelRows withUnit() {
        ChannelRows x = new ChannelRows();
        x.unit(1, 1, 1, 0);
        return x;
    }

    private static void noSlots(Cases cases) {
        cases.test("used from 0 to 0 is 0", check ->
                check.due("used", 0, new ChannelRows().used(5, 0, 0)));
        cases.refused("used from 0 to 1", Check.INDEX, ChannelRows::new, x -> x.used(0, 0, 1));
        cases.refused("used from 1 to 1", Check.INDEX, ChannelRows::new, x -> x.used(0, 1, 1));
        cases.refused("on in slot 0", Check.ARRAY_INDEX, ChannelRows::new, x -> x.on(0, 0));
        cases.refused("lose of slot 0", Check.ARRAY_INDEX, ChannelRows::new, x -> x.lose(0));
        cases.refused("lose of slot -1", Check.ARRAY_INDEX, ChannelRows::new, x -> x.lose(-1));
        cases.refused("hears in slot 0", Check.ARRAY_INDEX, NewObjectTest::withUnit,
                x -> x.hears(0, 0));
        cases.refused("speak from slot 0", Check.INDEX, NewObjectTest::withUnit,
                x -> x.speak(0, 0, 1, 1));
    }

    private static void noUnits(Cases cases) {
        cases.refused("no unit 0 to go", Check.ARGUMENT, ChannelRows::new, x -> x.go(0, 0, 0, 0));
        cases.refused("no unit 0 to speak", Check.ARGUMENT, ChannelRows::new,
                x -> x.speak(0, 0, 1, 1));
        cases.refused("no unit 0 to relay", Check.ARGUMENT, ChannelRows::new,
                x -> x.relay(0, 0, 0, 1));
        cases.refused("no unit 0 to hear", Check.ARGUMENT, ChannelRows::new, x -> x.hears(0, 0));
    }

    private static void noMessages(Cases cases) {
        cases.refused("no message 0 to relay", Check.ARGUMENT, NewObjectTest::withUnit,
                x -> x.relay(0, 0, 0, 1));
        cases.refused("no message 0 that ended", Check.ARGUMENT, ChannelRows::new,
                x -> x.ended(0));
        cases.refused("no message 0 with a length", Check.ARGUMENT, ChannelRows::new,
                x -> x.length(0));
        cases.refused("no message 0 that is unheard", Check.ARGUMENT, ChannelRows::new,
                x -> x.unheard(0, 0));
    }

    private static void noPatches(Check check) {
        ChannelRows x = new ChannelRows();
        for (int a = 0; a < 5; a++) {
            check.due("patch of " + a + " and the next", true, x.patch(a, a + 1));
        }
    }

    private static void roomForUnits(Check check) {
        ChannelRows x = new ChannelRows();
        for (int i = 0; i < 20; i++) {
            check.due("the number", i, x.unit(0, 0, 0, 0));
        }
        check.refused("unit 20", Check.UNSUPPORTED, () -> x.unit(0, 0, 0, 0));
    }

    private static void roomForRepeaters(Check check) {
        ChannelRows x = new ChannelRows();
        for (int i = 0; i < 8; i++) {
            check.due("the number", i, x.repeater(0, 0, 0, 0));
        }
        check.refused("repeater 8", Check.UNSUPPORTED, () -> x.repeater(0, 0, 0, 0));
    }

    private static void limitIsTaken(Check check) {
        ChannelRows x = new ChannelRows();
        x.limit(1);
        x.day(5);
        x.unit(0, 0, 0, 0);
        x.speak(0, 0, 3, 0);
        check.endedAs(x, 0, 0, 3);
    }

    private static void asAfterDayOfNone(Check check) {
        ChannelRows x = Worlds.busy();
        x.day(0);
        Standing.areAlike(check, new ChannelRows(), x);
    }

    private static void twoObjectsShareNothing(Check check) {
        ChannelRows one = new ChannelRows();
        ChannelRows other = new ChannelRows();
        one.day(5);
        one.unit(0, 0, 9, 0);
        one.speak(0, 0, 5, 0);
        one.lose(1);
        one.patch(0, 1);
        other.day(5);
        check.due("the other's first unit", 0, other.unit(0, 0, 9, 0));
        check.due("the other's first message", 0, other.speak(0, 1, 1, 0));
        check.due("the other's noise", true, other.lose(1));
        check.due("the other's patches", true, other.patch(0, 1));
        check.onInSlots(one, 0, 0, 0, 0, 0, 0, 0);
        check.onInSlots(other, 0, 0, -1, 0, -1, -1, -1);
    }
}
