/** Promise 15: unheard. */
public final class UnheardTest {
    public static void main(String[] args) {
        Cases cases = new Cases();
        numbers(cases);
        whoCounts(cases);
        whatCounts(cases);
        onInNone(cases);
        cases.close();
    }

    private static void numbers(Cases cases) {
        cases.edges("message", 0, 3, Check.ARGUMENT, Worlds::busy, (x, v) -> x.unheard(v, 0));
        cases.edges("message of 60:", 0, 59, Check.ARGUMENT, Worlds::fullOfMessages,
                (x, v) -> x.unheard(v, 0));
        cases.allowed("i", 0, Integer.MAX_VALUE, Worlds::busy, (x, v) -> x.unheard(0, v));
        cases.refusedBelow("i", 0, Check.INDEX, Worlds::busy, (x, v) -> x.unheard(0, v));
        cases.refused("there are no messages", Check.ARGUMENT, () -> Worlds.units(2, 8),
                x -> x.unheard(0, 0));
        cases.refused("no message, i below 0", Check.ARGUMENT, Worlds::busy,
                x -> x.unheard(4, -1));
        cases.refused("i below 0, nobody missed it", Check.INDEX, () -> {
            ChannelRows x = Worlds.units(1, 8);
            x.speak(0, 0, 1, 0);
            return x;
        }, x -> x.unheard(0, -1));
        cases.test("the first, the last, and not so many", check -> {
            ChannelRows x = fiveInARow();
            x.speak(2, 1, 3, 1);
            check.due("the first", 0, x.unheard(0, 0));
            check.due("the last", 4, x.unheard(0, 1));
            check.due("one more", -1, x.unheard(0, 2));
            check.due("far more", -1, x.unheard(0, Integer.MAX_VALUE));
        });
        cases.test("19 of 20 missed it", UnheardTest::nineteen);
        cases.test("the speaker is alone: nobody", check -> {
            ChannelRows x = Worlds.units(1, 8);
            x.speak(0, 1, 3, 1);
            check.unheardBy(x, 0);
        });
        cases.test("all heard it: nobody", check -> {
            ChannelRows x = Worlds.units(20, 8);
            x.speak(10, 1, 3, 1);
            check.unheardBy(x, 0);
        });
    }

    private static void nineteen(Check check) {
        ChannelRows x = Worlds.units(20, 8);
        x.speak(10, 1, 3, 1);
        x.lose(2);
        check.unheardBy(x, 0, 0, 1, 2, 3, 4, 5, 6, 7, 8, 9, 11, 12, 13, 14, 15, 16, 17, 18, 19);
    }

    /** Each hears those beside it alone. */
    private static ChannelRows fiveInARow() {
        ChannelRows x = Worlds.day(20);
        for (int i = 0; i < 5; i++) {
            x.unit(10 * i, 0, 10, 0);
        }
        return x;
    }

    private static ChannelRows middleSpeaks() {
        ChannelRows x = fiveInARow();
        x.speak(2, 1, 3, 1);
        return x;
    }

    private static void whoCounts(Cases cases) {
        cases.test("not one of another channel", check -> {
            ChannelRows x = middleSpeaks();
            x.go(0, 0, 0, 1);
            check.unheardBy(x, 0, 4);
        });
        cases.test("one of another channel of the group", check -> {
            ChannelRows x = middleSpeaks();
            x.go(0, 0, 0, 1);
            x.patch(1, 0);
            check.unheardBy(x, 0, 0, 4);
        });
        cases.test("one of the group that heard it", check -> {
            ChannelRows x = middleSpeaks();
            x.go(1, 10, 0, 1);
            x.patch(1, 0);
            check.unheardBy(x, 0, 0, 4);
        });
        cases.test("the group is the message's, not the speaker's of now", check -> {
            ChannelRows x = middleSpeaks();
            x.go(2, 20, 0, 5);
            x.unit(90, 0, 0, 5);
            check.unheardBy(x, 0, 0, 4);
        });
        cases.test("the speaker's point is as of now", check -> {
            ChannelRows x = middleSpeaks();
            x.go(2, 30, 0, 0);
            check.unheardBy(x, 0, 0, 1);
        });
        cases.test("one that came later", check -> {
            ChannelRows x = middleSpeaks();
            x.unit(90, 0, 0, 0);
            check.unheardBy(x, 0, 0, 4, 5);
        });
        cases.test("not one that hears it by a repeater", check -> {
            ChannelRows x = middleSpeaks();
            x.repeater(30, 0, 10, 0);
            check.unheardBy(x, 0, 0);
        });
        cases.test("not the speaker, who hears none of it", check -> {
            ChannelRows x = middleSpeaks();
            x.lose(1);
            check.unheardBy(x, 0, 0, 1, 3, 4);
        });
    }

    private static void whatCounts(Cases cases) {
        for (int lost = 0; lost <= 4; lost++) {
            int slot = lost;
            cases.test("on in 1 .. 3, slot " + slot + " is lost", check -> {
                ChannelRows x = middleSpeaks();
                x.lose(slot);
                if (slot == 0 || slot == 4) {
                    check.unheardBy(x, 0, 0, 4);
                } else {
                    check.unheardBy(x, 0, 0, 1, 3, 4);
                }
            });
        }
        cases.test("one without words: its one slot", check -> {
            ChannelRows x = fiveInARow();
            x.speak(4, 10, 0, 0);
            check.unheardBy(x, 0, 0, 1, 2);
            x.lose(10);
            check.unheardBy(x, 0, 0, 1, 2, 3);
        });
        cases.test("of one that was cut the slots that were on", UnheardTest::cutOne);
        cases.test("of one that the limit cut the slots that were on", check -> {
            ChannelRows x = middleSpeaks();
            x.lose(3);
            x.limit(2);
            check.unheardBy(x, 0, 0, 4);
        });
        cases.test("of one that the day cut the slots that were on", check -> {
            ChannelRows x = fiveInARow();
            x.speak(2, 19, 9, 1);
            check.unheardBy(x, 0, 0, 4);
            x.lose(19);
            check.unheardBy(x, 0, 0, 1, 3, 4);
        });
        cases.test("of one that broke in not the slot where it began", check -> {
            ChannelRows x = fiveInARow();
            x.speak(1, 1, 9, 1);
            x.speak(2, 4, 1, 2);
            x.lose(4);
            check.unheardBy(x, 1, 0, 4);
            x.lose(5);
            check.unheardBy(x, 1, 0, 1, 3, 4);
        });
    }

    private static void cutOne(Check check) {
        ChannelRows x = fiveInARow();
        x.speak(1, 1, 9, 1);
        x.speak(2, 4, 1, 2);
        x.lose(5);
        check.unheardBy(x, 0, 3, 4);
        x.lose(4);
        check.unheardBy(x, 0, 0, 2, 3, 4);
    }

    private static void onInNone(Cases cases) {
        cases.test("of a lost one all, but the speaker", check -> {
            ChannelRows x = fiveInARow();
            x.speak(2, 1, 1, 1);
            x.speak(3, 1, 1, 1);
            check.unheardBy(x, 0, 0, 1, 3, 4);
            check.unheardBy(x, 1, 0, 1, 2, 4);
        });
        cases.test("of one from behind the day all, but the speaker", check -> {
            ChannelRows x = fiveInARow();
            x.speak(0, 18, 2, 0);
            x.speak(2, 19, 2, 1);
            check.endedAs(x, 1, 4, 0);
            check.unheardBy(x, 1, 0, 1, 3, 4);
        });
        cases.test("of a lost one those of the group alone", check -> {
            ChannelRows x = fiveInARow();
            x.speak(2, 1, 1, 1);
            x.speak(3, 1, 1, 1);
            x.go(0, 0, 0, 4);
            x.go(1, 0, 0, 5);
            x.patch(5, 0);
            check.unheardBy(x, 0, 1, 3, 4);
        });
        cases.test("of a lost one, when the speaker is alone: nobody", check -> {
            ChannelRows x = fiveInARow();
            x.speak(2, 1, 1, 1);
            x.speak(3, 1, 1, 1);
            for (int unit = 0; unit < 5; unit++) {
                x.go(unit, 0, 0, 5);
            }
            check.unheardBy(x, 0);
        });
    }
}
