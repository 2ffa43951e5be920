/** Promise 16: used. */
public final class UsedTest {
    public static void main(String[] args) {
        Cases cases = new Cases();
        numbers(cases);
        parts(cases);
        whatIsOn(cases);
        cases.close();
    }

    private static void numbers(Cases cases) {
        cases.edges("channel", 0, 5, Check.ARGUMENT, Worlds::busy, (x, v) -> x.used(v, 0, 8));
        cases.edges("from", 0, 8, Check.INDEX, Worlds::busy, (x, v) -> x.used(0, v, 8));
        cases.edges("to", 0, 8, Check.INDEX, Worlds::busy, (x, v) -> x.used(0, 0, v));
        cases.edges("both", 0, 8, Check.INDEX, Worlds::busy, (x, v) -> x.used(0, v, v));
        cases.edges("to of 1000:", 0, 1000, Check.INDEX, () -> Worlds.day(1000),
                (x, v) -> x.used(0, 0, v));
        cases.edges("to of no slots:", 0, 0, Check.INDEX, ChannelRows::new,
                (x, v) -> x.used(0, 0, v));
        cases.edges("from of no slots:", 0, 0, Check.INDEX, ChannelRows::new,
                (x, v) -> x.used(0, v, 0));
        cases.refused("the second one below the first", Check.INDEX, Worlds::busy,
                x -> x.used(0, 4, 3));
        cases.refused("the second one 0, the first n", Check.INDEX, Worlds::busy,
                x -> x.used(0, 8, 0));
        cases.refused("from far below to far above", Check.INDEX, Worlds::busy,
                x -> x.used(0, Integer.MIN_VALUE, Integer.MAX_VALUE));
        cases.refused("no channel, and slots the wrong way round", Check.ARGUMENT, Worlds::busy,
                x -> x.used(6, 5, 1));
        cases.refused("no channel, and slots that are not there", Check.ARGUMENT, Worlds::busy,
                x -> x.used(-1, -1, 9));
    }

    /** On in slots 2 .. 5 and 18 .. 19 of 20. */
    private static ChannelRows twoTalks() {
        ChannelRows x = Worlds.units(1, 20);
        x.speak(0, 2, 4, 1);
        x.speak(0, 18, 9, 1);
        return x;
    }

    private static void parts(Cases cases) {
        part(cases, "the whole day", 0, 20, 6);
        part(cases, "up to its first slot", 0, 2, 0);
        part(cases, "its first slot", 2, 3, 1);
        part(cases, "up to behind its first slot", 0, 3, 1);
        part(cases, "inside it", 3, 5, 2);
        part(cases, "all of it", 2, 6, 4);
        part(cases, "a slot more at both ends", 1, 7, 4);
        part(cases, "its last slot", 5, 9, 1);
        part(cases, "from behind it", 6, 18, 0);
        part(cases, "over both", 5, 19, 2);
        part(cases, "the day's last slot", 19, 20, 1);
        part(cases, "nothing at the day's begin", 0, 0, 0);
        part(cases, "nothing inside it", 3, 3, 0);
        part(cases, "nothing at the day's end", 20, 20, 0);
    }

    private static void part(Cases cases, String name, int from, int to, int due) {
        cases.test(name, check -> check.due("used", due, twoTalks().used(0, from, to)));
    }

    private static void whatIsOn(Cases cases) {
        cases.test("a silent channel", check ->
                check.due("used", 0, twoTalks().used(5, 0, 20)));
        cases.test("there are no units", check ->
                check.due("used", 0, Worlds.day(1000).used(0, 0, 1000)));
        cases.test("there are no messages", check ->
                check.due("used", 0, Worlds.units(3, 8).used(0, 0, 8)));
        cases.test("noise does not count", check -> {
            ChannelRows x = twoTalks();
            x.lose(3);
            check.due("used", 6, x.used(0, 0, 20));
        });
        cases.test("lost messages do not count", check -> {
            ChannelRows x = Worlds.units(2, 8);
            x.speak(0, 1, 3, 1);
            x.speak(1, 1, 3, 1);
            check.due("used", 0, x.used(0, 0, 8));
        });
        cases.test("of a cut one the slots that were on", check -> {
            ChannelRows x = Worlds.units(2, 8);
            x.speak(0, 0, 8, 1);
            x.speak(1, 1, 2, 2);
            check.due("used", 4, x.used(0, 0, 8));
        });
        cases.test("with a limit", check -> {
            ChannelRows x = twoTalks();
            x.limit(1);
            check.due("used", 2, x.used(0, 0, 20));
        });
        cases.test("the group, by each of its channels", UsedTest::byEachChannel);
        cases.test("every slot of the longest day", UsedTest::everySlot);
    }

    private static void byEachChannel(Check check) {
        ChannelRows x = Worlds.day(8);
        x.unit(0, 0, 9, 0);
        x.unit(0, 0, 9, 1);
        x.speak(0, 0, 2, 0);
        x.speak(1, 1, 3, 1);
        check.due("apart", 2, x.used(0, 0, 8));
        check.due("apart too", 3, x.used(1, 0, 8));
        x.patch(0, 1);
        x.patch(1, 5);
        check.due("by 0", 5, x.used(0, 0, 8));
        check.due("by 1", 5, x.used(1, 0, 8));
        check.due("by 5", 5, x.used(5, 0, 8));
        check.due("by 2", 0, x.used(2, 0, 8));
    }

    private static void everySlot(Check check) {
        ChannelRows x = Worlds.units(1, 1000);
        for (int i = 0; i < 50; i++) {
            x.speak(0, 20 * i, 20, 0);
        }
        check.due("all", 1000, x.used(0, 0, 1000));
        check.due("all but the first", 999, x.used(0, 1, 1000));
        check.due("all but the last", 999, x.used(0, 0, 999));
    }
}
