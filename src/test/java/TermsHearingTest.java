/** Terms, the words of a message and the last paragraph: who hears what in a slot. */
public final class TermsHearingTest {
    public static void main(String[] args) {
        Cases cases = new Cases();
        words(cases);
        group(cases);
        itself(cases);
        noise(cases);
        reach(cases);
        repeaterNearTheSpeaker(cases);
        repeaterNearTheUnit(cases);
        repeaterOfTheGroup(cases);
        asOfNow(cases);
        cases.close();
    }

    private static void words(Cases cases) {
        cases.test("in its k-th slot word k is spoken", check -> {
            ChannelRows x = Worlds.units(2, 200);
            x.speak(0, 40, 99, 0);
            check.due("before it", 0, x.hears(1, 39));
            for (int k = 1; k <= 99; k++) {
                check.due("word " + k, 100 + k, x.hears(1, 39 + k));
            }
            check.due("behind it", 0, x.hears(1, 139));
        });
        cases.test("without words: word 0", check -> {
            ChannelRows x = Worlds.units(2, 3);
            x.speak(0, 1, 0, 0);
            check.heardInSlots(x, 1, 0, 0, 100, 0);
        });
        cases.test("one word: word 1", check -> {
            ChannelRows x = Worlds.units(2, 3);
            x.speak(0, 1, 1, 0);
            check.heardInSlots(x, 1, 0, 0, 101, 0);
        });
        cases.test("one that broke in says word 1 in the next slot", check -> {
            ChannelRows x = Worlds.units(3, 8);
            x.speak(0, 0, 5, 0);
            x.speak(1, 2, 2, 1);
            check.heardInSlots(x, 2, 0, 101, 102, 103, 201, 202, 0);
        });
        cases.test("one without words that broke in says word 0 in the next slot", check -> {
            ChannelRows x = Worlds.units(3, 8);
            x.speak(0, 0, 5, 0);
            x.speak(1, 2, 0, 1);
            check.heardInSlots(x, 2, 0, 101, 102, 103, 200, 0);
        });
        cases.test("noise does not put words off", check -> {
            ChannelRows x = Worlds.units(2, 8);
            x.speak(0, 0, 3, 0);
            x.lose(0);
            check.heardInSlots(x, 1, 0, 0, 102, 103, 0);
        });
    }

    private static void group(Cases cases) {
        cases.test("not what is on in another group", check -> {
            ChannelRows x = twoChannels();
            check.due("apart", 0, x.hears(1, 0));
        });
        cases.test("what is on in another channel of its group", check -> {
            ChannelRows x = twoChannels();
            x.patch(3, 2);
            x.patch(3, 1);
            check.due("joined by way of 3", 101, x.hears(1, 0));
        });
        cases.test("of two groups its own", check -> {
            ChannelRows x = twoChannels();
            x.unit(0, 0, 9, 2);
            x.speak(2, 0, 1, 0);
            check.due("the one of channel 2", 201, x.hears(1, 0));
        });
    }

    private static ChannelRows twoChannels() {
        ChannelRows x = Worlds.day(2);
        x.unit(0, 0, 9, 1);
        x.unit(0, 0, 9, 2);
        x.speak(0, 0, 1, 0);
        return x;
    }

    private static void itself(Cases cases) {
        cases.test("not what it speaks itself", check -> {
            ChannelRows x = Worlds.units(1, 2);
            x.speak(0, 0, 1, 0);
            check.due("hears", 0, x.hears(0, 0));
        });
        cases.test("not what it speaks itself, with a repeater there", check -> {
            ChannelRows x = Worlds.units(1, 2);
            x.repeater(0, 0, 9999, 0);
            x.speak(0, 0, 1, 0);
            check.due("hears", 0, x.hears(0, 0));
        });
        cases.test("not what it speaks itself, from another channel of the group", check -> {
            ChannelRows x = Worlds.units(1, 2);
            x.speak(0, 0, 1, 0);
            x.patch(0, 1);
            x.go(0, 0, 0, 1);
            check.due("hears", 0, x.hears(0, 0));
        });
        cases.test("what another one speaks, while its own is lost", check -> {
            ChannelRows x = Worlds.units(2, 2);
            x.speak(0, 0, 1, 5);
            x.speak(1, 0, 1, 4);
            check.due("hears", 101, x.hears(1, 0));
        });
        cases.test("what another one speaks, while its own is on in another group", check -> {
            ChannelRows x = Worlds.units(2, 2);
            x.go(1, 0, 0, 3);
            x.speak(1, 0, 2, 0);
            x.go(1, 0, 0, 0);
            x.speak(0, 0, 2, 0);
            check.heardInSlots(x, 1, 0, 201, 202);
        });
    }

    private static void noise(Cases cases) {
        cases.test("not in a slot that is lost to noise", check -> {
            ChannelRows x = Worlds.units(2, 3);
            x.speak(0, 0, 3, 0);
            x.lose(1);
            check.heardInSlots(x, 1, 0, 101, 0, 103);
        });
        cases.test("not by a repeater either", check -> {
            ChannelRows x = Worlds.units(2, 3);
            x.repeater(0, 0, 100, 0);
            x.go(1, 100, 1, 0);
            x.speak(0, 0, 3, 0);
            x.lose(1);
            check.heardInSlots(x, 1, 0, 0, 0, 0);
            x.go(1, 60, 80, 0);
            check.heardInSlots(x, 1, 0, 101, 0, 103);
        });
        cases.test("noise in the day's first and last slot", check -> {
            ChannelRows x = Worlds.units(2, 3);
            x.speak(0, 0, 3, 0);
            x.lose(0);
            x.lose(2);
            check.heardInSlots(x, 1, 0, 0, 102, 0);
        });
    }

    private static void reach(Cases cases) {
        inReach(cases, 100, 100, 0, 100, 100, true);
        inReach(cases, 100, 100, 0, 101, 100, false);
        inReach(cases, 100, 100, 0, 100, 99, false);
        inReach(cases, 100, 100, 1, 101, 100, true);
        inReach(cases, 100, 100, 1, 101, 101, false);
        inReach(cases, 100, 100, 25, 107, 124, true);
        inReach(cases, 100, 100, 25, 93, 76, true);
        inReach(cases, 100, 100, 25, 115, 80, true);
        inReach(cases, 100, 100, 25, 100, 125, true);
        inReach(cases, 100, 100, 25, 75, 100, true);
        inReach(cases, 100, 100, 25, 108, 124, false);
        inReach(cases, 100, 100, 25, 92, 76, false);
        inReach(cases, 100, 100, 25, 115, 79, false);
        inReach(cases, 100, 100, 25, 100, 126, false);
        inReach(cases, 100, 100, 25, 74, 100, false);
        inReach(cases, 0, 0, 9999, 9999, 0, true);
        inReach(cases, 0, 0, 9999, 0, 9999, true);
        inReach(cases, 0, 0, 9999, 9999, 1, false);
        inReach(cases, 0, 0, 9999, 9999, 9999, false);
        inReach(cases, 9999, 9999, 9999, 0, 9999, true);
        inReach(cases, 9999, 9999, 9999, 0, 9998, false);
        inReach(cases, 0, 9999, 9998, 9999, 9999, false);
        inReach(cases, 0, 9999, 9998, 9998, 9999, true);
        inReach(cases, 9999, 0, 9999, 0, 9999, false);
        cases.test("the listener's reach does not count", check -> {
            ChannelRows x = Worlds.day(2);
            x.unit(0, 0, 4, 0);
            x.unit(5, 0, 9999, 0);
            x.speak(0, 0, 1, 0);
            x.speak(1, 1, 1, 0);
            check.due("of the small reach", 0, x.hears(1, 0));
            check.due("of the large reach", 201, x.hears(0, 1));
        });
    }

    private static void inReach(Cases cases, int x, int y, int reach, int toX, int toY, boolean due) {
        cases.test("(" + toX + ", " + toY + ") by (" + x + ", " + y + "), reach " + reach, check -> {
            ChannelRows radio = Worlds.day(1);
            radio.unit(x, y, reach, 0);
            radio.unit(toX, toY, 0, 0);
            radio.speak(0, 0, 1, 0);
            check.due("hears", due ? 101 : 0, radio.hears(1, 0));
            check.unheardBy(radio, 0, due ? new int[0] : new int[] {1});
        });
    }

    /** Unit 0 speaks at (100, 100) with this reach; unit 1 is far off, in a repeater's reach alone. */
    private static void repeats(Cases cases, String name, int reach, int x, int y, int its, int toX,
            int toY, boolean due) {
        cases.test("a repeater " + name, check -> {
            ChannelRows radio = Worlds.day(1);
            radio.unit(100, 100, reach, 0);
            radio.unit(toX, toY, 0, 0);
            radio.speak(0, 0, 1, 0);
            check.due("without it", 0, radio.hears(1, 0));
            radio.repeater(x, y, its, 0);
            check.due("with it", due ? 101 : 0, radio.hears(1, 0));
        });
    }

    private static void repeaterNearTheSpeaker(Cases cases) {
        repeats(cases, "at the edge of the speaker's reach", 5, 103, 104, 9999, 500, 500, true);
        repeats(cases, "one step past the speaker's reach", 5, 103, 105, 9999, 500, 500, false);
        repeats(cases, "one step past it the other way", 5, 104, 104, 9999, 500, 500, false);
        repeats(cases, "at the speaker's point, reach 0", 0, 100, 100, 9999, 500, 500, true);
        repeats(cases, "beside the speaker's point, reach 0", 0, 100, 101, 9999, 500, 500, false);
        repeats(cases, "whose own reach has the speaker", 5, 106, 100, 50, 120, 100, false);
    }

    private static void repeaterNearTheUnit(Cases cases) {
        repeats(cases, "with the unit at the edge of its reach", 5, 103, 104, 10, 109, 112, true);
        repeats(cases, "with the unit one step past its reach", 5, 103, 104, 10, 109, 113, false);
        repeats(cases, "with the unit one step past the other way", 5, 103, 104, 10, 110, 112, false);
        repeats(cases, "of reach 0 one step off the unit", 5, 105, 100, 0, 106, 100, false);
        repeats(cases, "of reach 9999, as far as that", 5, 100, 100, 9999, 100, 9999, true);
        repeats(cases, "of the largest reach, too far off", 100, 0, 100, 9999, 9999, 101, false);
        repeats(cases, "of the largest reach, just as far", 100, 0, 100, 9999, 9999, 100, true);
        cases.test("the unit's own reach does not count", check -> {
            ChannelRows x = Worlds.day(1);
            x.unit(0, 0, 5, 0);
            x.unit(20, 0, 9999, 0);
            x.repeater(5, 0, 14, 0);
            x.speak(0, 0, 1, 0);
            check.due("hears", 0, x.hears(1, 0));
        });
        cases.test("one repeater near the speaker, another one near the unit: no", check -> {
            ChannelRows x = Worlds.day(3);
            x.unit(0, 0, 5, 0);
            x.unit(20, 0, 0, 0);
            x.speak(0, 1, 1, 0);
            x.repeater(5, 0, 8, 0);
            x.repeater(13, 0, 8, 0);
            check.due("hears", 0, x.hears(1, 1));
        });
        cases.test("some repeater is enough, the last of 8 too", check -> {
            ChannelRows x = Worlds.day(1);
            x.unit(0, 0, 5, 0);
            x.unit(20, 0, 0, 0);
            x.speak(0, 0, 1, 0);
            for (int r = 0; r < 7; r++) {
                x.repeater(6, 0, 9999, 0);
            }
            check.due("hears", 0, x.hears(1, 0));
            x.repeater(5, 0, 15, 0);
            check.due("hears", 101, x.hears(1, 0));
        });
        cases.test("one in reach hears though a repeater does not reach it", check -> {
            ChannelRows x = Worlds.units(2, 1);
            x.repeater(9999, 9999, 0, 0);
            x.speak(0, 0, 1, 0);
            check.due("hears", 101, x.hears(1, 0));
        });
    }

    private static void repeaterOfTheGroup(Cases cases) {
        for (int channel = 0; channel < 6; channel++) {
            int c = channel;
            cases.test("a repeater of channel " + c + ", the group is 0, 2, 5", check -> {
                ChannelRows x = Worlds.day(1);
                x.unit(0, 0, 5, 0);
                x.unit(20, 0, 0, 2);
                x.patch(0, 5);
                x.patch(5, 2);
                x.patch(3, 4);
                x.speak(0, 0, 1, 0);
                x.repeater(5, 0, 15, c);
                check.due("hears", c == 0 || c == 2 || c == 5 ? 101 : 0, x.hears(1, 0));
            });
        }
        cases.test("a repeater is of the group when a patch joins it", check -> {
            ChannelRows x = Worlds.day(1);
            x.unit(0, 0, 5, 0);
            x.unit(20, 0, 0, 0);
            x.speak(0, 0, 1, 0);
            x.repeater(5, 0, 15, 4);
            check.due("apart", 0, x.hears(1, 0));
            x.patch(4, 0);
            check.due("joined", 101, x.hears(1, 0));
        });
        cases.test("a repeater joins no groups", check -> {
            ChannelRows x = Worlds.day(1);
            x.unit(0, 0, 5, 0);
            x.unit(0, 0, 5, 1);
            x.speak(0, 0, 1, 0);
            x.repeater(0, 0, 99, 0);
            x.repeater(0, 0, 99, 1);
            check.due("hears", 0, x.hears(1, 0));
            check.due("on", -1, x.on(1, 0));
        });
    }

    private static void asOfNow(Cases cases) {
        cases.test("units are as now: the speaker goes", check -> {
            ChannelRows x = Worlds.units(2, 1);
            x.speak(0, 0, 1, 0);
            x.go(0, 102, 0, 0);
            check.due("too far", 0, x.hears(1, 0));
            x.go(0, 101, 0, 0);
            check.due("just in reach", 101, x.hears(1, 0));
        });
        cases.test("units are as now: the speaker goes to a repeater", check -> {
            ChannelRows x = Worlds.day(1);
            x.unit(0, 0, 5, 0);
            x.unit(500, 0, 0, 0);
            x.repeater(300, 0, 200, 0);
            x.speak(0, 0, 1, 0);
            check.due("before", 0, x.hears(1, 0));
            x.go(0, 295, 0, 0);
            check.due("just near it", 101, x.hears(1, 0));
        });
        cases.test("a message stays on its channel, its speaker hears what is on elsewhere", check -> {
            ChannelRows x = Worlds.units(3, 2);
            x.go(2, 2, 0, 3);
            x.speak(0, 0, 2, 0);
            x.speak(2, 0, 2, 0);
            x.go(0, 0, 0, 3);
            check.heardInSlots(x, 0, 0, 201, 202);
            check.heardInSlots(x, 1, 0, 101, 102);
        });
        cases.test("patches are as now", check -> {
            ChannelRows x = Worlds.units(2, 2);
            x.go(1, 1, 0, 3);
            x.speak(0, 0, 2, 0);
            x.speak(1, 0, 2, 1);
            check.onInSlots(x, 0, 0, 0, 0);
            x.patch(0, 3);
            check.onInSlots(x, 0, 0, 1, 1);
            check.endedAs(x, 0, 3, 0);
        });
        cases.test("repeaters are as now", check -> {
            ChannelRows x = Worlds.units(2, 1);
            x.go(1, 200, 0, 0);
            x.speak(0, 0, 1, 0);
            check.unheardBy(x, 0, 1);
            x.repeater(100, 0, 100, 0);
            check.unheardBy(x, 0);
        });
    }
}
