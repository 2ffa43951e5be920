/** Terms, the first two paragraphs: days, channels, groups, units, repeaters, messages, the limit. */
public final class TermsThingsTest {
    public static void main(String[] args) {
        Cases cases = new Cases();
        days(cases);
        channels(cases);
        units(cases);
        repeaters(cases);
        messages(cases);
        lengths(cases);
        channelWhenTold(cases);
        limit(cases);
        cases.close();
    }

    private static void days(Cases cases) {
        for (int slots : new int[] {1, 2, 999, 1000}) {
            cases.test("a day of " + slots + " has slots 0 .. n - 1 for each call", check -> {
                ChannelRows x = Worlds.units(2, slots);
                for (int slot : new int[] {0, slots - 1}) {
                    check.due("on", -1, x.on(0, slot));
                    check.due("hears", 0, x.hears(1, slot));
                }
                check.due("lose", true, x.lose(slots - 1));
                check.due("speak", 0, x.speak(0, slots - 1, 1, 0));
                check.due("on", 0, x.on(0, slots - 1));
                check.due("used", 1, x.used(0, slots - 1, slots));
            });
        }
        cases.refused("a day has no more than 1,000 slots", Check.ARGUMENT, ChannelRows::new,
                x -> x.day(1001));
    }

    private static void channels(Cases cases) {
        cases.test("each channel is a group of its own at first", check -> {
            for (int a = 0; a < 6; a++) {
                for (int b = 0; b < 6; b++) {
                    check.due("patch(" + a + ", " + b + ")", a != b, Worlds.emptyDay().patch(a, b));
                }
            }
        });
        cases.test("a patch joins two, and no other", check -> {
            ChannelRows x = channelsWithTalk();
            x.patch(0, 5);
            check.onInSlots(x, 5, 0, -1, -1);
            check.onInSlots(x, 0, 0, -1, -1);
            for (int c = 1; c < 5; c++) {
                check.onInSlots(x, c, 0, c, -1);
            }
        });
        cases.test("joined one by way of another, through all six", check -> {
            ChannelRows x = Worlds.day(2);
            x.unit(0, 0, 9, 0);
            x.unit(0, 0, 9, 5);
            x.speak(0, 0, 1, 0);
            int[][] chain = {{5, 4}, {0, 1}, {2, 3}, {1, 2}};
            for (int[] link : chain) {
                x.patch(link[0], link[1]);
                check.due("the last link is missing", 0, x.hears(1, 0));
            }
            x.patch(4, 3);
            check.due("the last link", 101, x.hears(1, 0));
        });
        cases.test("a ring of patches is one group", check -> {
            ChannelRows x = Worlds.emptyDay();
            for (int a = 0; a < 5; a++) {
                check.due("a link", true, x.patch(a, a + 1));
            }
            check.due("the link that closes it", false, x.patch(5, 0));
        });
        cases.refused("there is no channel 6", Check.ARGUMENT, Worlds::busy, x -> x.on(6, 0));
        cases.refused("there is no channel -1", Check.ARGUMENT, Worlds::busy, x -> x.on(-1, 0));
    }

    /** On each channel a message of its own in slot 0: with others of its group all are lost. */
    private static ChannelRows channelsWithTalk() {
        ChannelRows x = Worlds.day(2);
        for (int c = 0; c < 6; c++) {
            x.unit(0, 0, 9, c);
            x.speak(c, 0, 1, 0);
        }
        return x;
    }

    private static void units(Cases cases) {
        cases.test("20 units all hear the one that speaks", check -> {
            ChannelRows x = Worlds.units(20, 2);
            x.speak(7, 0, 1, 0);
            for (int u = 0; u < 20; u++) {
                check.due("hears(" + u + ", 0)", u == 7 ? 0 : 101, x.hears(u, 0));
            }
        });
        cases.refused("there is no 21st unit", Check.UNSUPPORTED, Worlds::fullOfUnits,
                x -> x.unit(0, 0, 0, 0));
    }

    private static void repeaters(Cases cases) {
        cases.test("each of 8 repeaters repeats", check -> {
            ChannelRows x = Worlds.day(1);
            x.unit(0, 0, 100, 0);
            x.speak(0, 0, 1, 0);
            for (int r = 0; r < 8; r++) {
                x.repeater(10 * r, 90, 400, 0);
                x.unit(10 * r, 490, 0, 0);
            }
            int[] heard = {101, 101, 101, 101, 101, 0, 0, 0};
            for (int r = 0; r < 8; r++) {
                check.due("hears(" + (r + 1) + ", 0)", heard[r], x.hears(r + 1, 0));
            }
        });
        cases.refused("there is no ninth repeater", Check.UNSUPPORTED, Worlds::fullOfRepeaters,
                x -> x.repeater(0, 0, 0, 0));
    }

    private static void messages(Cases cases) {
        cases.test("60 messages, twenty in each of three slots", check -> {
            ChannelRows x = Worlds.units(20, 3);
            for (int i = 0; i < 60; i++) {
                check.due("the number", i, x.speak(i % 20, i / 20, 1, i % 20 == 9 ? 9 : i % 9));
            }
            check.onInSlots(x, 0, 0, 9, 29, 49);
            check.due("used", 3, x.used(0, 0, 3));
        });
        cases.refused("there is no 61st message", Check.UNSUPPORTED, Worlds::fullOfMessages,
                x -> x.speak(3, 6, 1, 1));
        cases.refused("there is no 61st message by relay", Check.UNSUPPORTED,
                Worlds::fullOfMessages, x -> x.relay(1, 0, 6, 1));
    }

    private static void lengths(Cases cases) {
        for (int words : new int[] {0, 1, 2, 3, 98, 99}) {
            cases.test(words + " words are on for as many slots, none for 1", check -> {
                ChannelRows x = Worlds.units(1, 200);
                x.speak(0, 50, words, 0);
                int slots = words == 0 ? 1 : words;
                check.endedAs(x, 0, 0, slots);
                check.due("before", -1, x.on(0, 49));
                check.due("its first slot", 0, x.on(0, 50));
                check.due("its last slot", 0, x.on(0, 49 + slots));
                check.due("behind", -1, x.on(0, 50 + slots));
                check.due("used", slots, x.used(0, 0, 200));
            });
        }
    }

    private static void channelWhenTold(Cases cases) {
        for (int channel = 0; channel < 6; channel++) {
            int told = channel;
            cases.test("told on channel " + told + ", the unit goes behind it", check -> {
                ChannelRows x = Worlds.day(1);
                x.unit(0, 0, 9, (told + 3) % 6);
                x.go(0, 0, 0, told);
                x.speak(0, 0, 1, 0);
                x.go(0, 0, 0, (told + 1) % 6);
                for (int c = 0; c < 6; c++) {
                    check.due("on(" + c + ", 0)", c == told ? 0 : -1, x.on(c, 0));
                }
            });
        }
    }

    private static void limit(Cases cases) {
        cases.test("the limit is none at first", check -> {
            ChannelRows x = Worlds.units(1, 99);
            x.speak(0, 0, 99, 0);
            check.endedAs(x, 0, 0, 99);
        });
        cases.test("the limit 0 is none", check -> {
            ChannelRows x = Worlds.units(1, 99);
            x.limit(1);
            x.limit(0);
            x.speak(0, 0, 99, 0);
            check.endedAs(x, 0, 0, 99);
        });
        for (int limit = 1; limit <= 5; limit++) {
            int most = limit;
            cases.test("limit " + limit + ": none is on for more slots", check -> {
                ChannelRows x = Worlds.units(1, 99);
                x.limit(most);
                for (int words = 0; words <= 6; words++) {
                    x.speak(0, 10 * words, words, 0);
                    check.endedAs(x, words, words > most ? 2 : 0,
                            Math.min(most, Math.max(1, words)));
                }
            });
        }
    }
}
