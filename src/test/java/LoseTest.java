/** Promise 10: lose. */
public final class LoseTest {
    public static void main(String[] args) {
        Cases cases = new Cases();
        cases.edges("slot", 0, 7, Check.ARRAY_INDEX, Worlds::busy, ChannelRows::lose);
        cases.edges("slot of 1000:", 0, 999, Check.ARRAY_INDEX, () -> Worlds.day(1000),
                ChannelRows::lose);
        cases.edges("slot of 1:", 0, 0, Check.ARRAY_INDEX, () -> Worlds.day(1),
                ChannelRows::lose);
        cases.refused("a day of no slots", Check.ARRAY_INDEX, () -> Worlds.units(1, 0),
                x -> x.lose(0));
        cases.test("lost, not any more, lost again", LoseTest::turns);
        cases.test("each slot for itself", LoseTest::eachForItself);
        cases.test("in all groups", LoseTest::inAllGroups);
        cases.test("what is on stays on", LoseTest::staysOn);
        cases.test("lost before there is a message", LoseTest::beforeAMessage);
        cases.test("without units or messages", check ->
                check.due("lost", true, Worlds.emptyDay().lose(3)));
        cases.test("every slot of the longest day", LoseTest::everySlot);
        cases.close();
    }

    private static void turns(Check check) {
        ChannelRows x = Worlds.units(2, 8);
        x.speak(0, 2, 3, 0);
        check.due("lost", true, x.lose(3));
        check.heardInSlots(x, 1, 1, 0, 101, 0, 103, 0);
        check.unheardBy(x, 0, 1);
        check.due("not any more", false, x.lose(3));
        check.heardInSlots(x, 1, 1, 0, 101, 102, 103, 0);
        check.unheardBy(x, 0);
        check.due("lost again", true, x.lose(3));
        check.heardInSlots(x, 1, 1, 0, 101, 0, 103, 0);
    }

    private static void eachForItself(Check check) {
        ChannelRows x = Worlds.units(2, 8);
        x.speak(0, 0, 8, 0);
        check.due("the first", true, x.lose(0));
        check.due("the last", true, x.lose(7));
        check.heardInSlots(x, 1, 0, 0, 102, 103, 104, 105, 106, 107, 0);
        check.due("the first not any more", false, x.lose(0));
        check.heardInSlots(x, 1, 0, 101, 102, 103, 104, 105, 106, 107, 0);
    }

    private static void inAllGroups(Check check) {
        ChannelRows x = Worlds.day(3);
        for (int c = 0; c < 6; c++) {
            x.unit(0, 0, 9, c);
            x.unit(0, 0, 9, c);
            x.speak(2 * c, 0, 3, 0);
        }
        x.lose(1);
        for (int c = 0; c < 6; c++) {
            check.heardInSlots(x, 2 * c + 1, 0, 100 * c + 101, 0, 100 * c + 103);
        }
    }

    private static void staysOn(Check check) {
        ChannelRows x = Worlds.units(2, 8);
        x.speak(0, 2, 3, 0);
        for (int slot = 0; slot < 8; slot++) {
            x.lose(slot);
        }
        check.onInSlots(x, 0, 0, -1, -1, 0, 0, 0, -1, -1, -1);
        check.endedAs(x, 0, 0, 3);
        check.due("used", 3, x.used(0, 0, 8));
        check.heardInSlots(x, 1, 0, 0, 0, 0, 0, 0, 0, 0, 0);
    }

    private static void beforeAMessage(Check check) {
        ChannelRows x = Worlds.day(4);
        x.lose(1);
        x.unit(0, 0, 9, 0);
        x.unit(0, 0, 9, 0);
        x.speak(0, 0, 3, 0);
        check.heardInSlots(x, 1, 0, 101, 0, 103, 0);
    }

    private static void everySlot(Check check) {
        for (int half = 0; half < 1000; half += 500) {
            ChannelRows x = Worlds.day(1000);
            for (int slot = half; slot < half + 500; slot++) {
                check.due("lose(" + slot + ")", true, x.lose(slot));
            }
        }
    }
}
