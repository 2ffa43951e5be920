/** Terms, the third paragraph: who calls, who is on, who is cut, how messages end. */
public final class TermsAirTest {
    private static final int WELL = 0;
    private static final int CUT = 1;
    private static final int BY_LIMIT = 2;
    private static final int LOST = 3;
    private static final int BY_DAY = 4;

    public static void main(String[] args) {
        Cases cases = new Cases();
        beginsThatMeet(cases);
        noneIsOn(cases);
        ranksThatBreakIn(cases);
        breakInSlots(cases);
        lastSlotAnyway(cases);
        fromTheNextSlot(cases);
        callersThatAreLost(cases);
        wellOrByTheLimit(cases);
        byTheDay(cases);
        behindTheDay(cases);
        groupsApart(cases);
        cases.close();
    }

    /** Units 0, 1, .. begin together in slot 2, with two words and these ranks. */
    private static ChannelRows meeting(int... ranks) {
        ChannelRows x = Worlds.units(ranks.length, 8);
        for (int i = 0; i < ranks.length; i++) {
            x.speak(i, 2, 2, ranks[i]);
        }
        return x;
    }

    private static void meets(Cases cases, String name, int caller, int... ranks) {
        cases.test(name, check -> {
            ChannelRows x = meeting(ranks);
            check.onInSlots(x, 0, 1, -1, caller, caller, -1);
            for (int m = 0; m < ranks.length; m++) {
                check.endedAs(x, m, m == caller ? WELL : LOST, m == caller ? 2 : 0);
            }
        });
    }

    private static void beginsThatMeet(Cases cases) {
        meets(cases, "one alone, of rank 0, calls", 0, 0);
        meets(cases, "one alone, of rank 9, calls", 0, 9);
        meets(cases, "the higher of two calls", 1, 3, 4);
        meets(cases, "the higher of two calls, told first", 0, 4, 3);
        meets(cases, "rank 9 above rank 0", 1, 0, 9);
        meets(cases, "rank 1 above rank 0", 0, 1, 0);
        meets(cases, "rank 9 above rank 8", 1, 8, 9);
        meets(cases, "two of one rank: none", -1, 4, 4);
        meets(cases, "two of rank 0: none", -1, 0, 0);
        meets(cases, "two of rank 9: none", -1, 9, 9);
        meets(cases, "two of the highest rank and a lower one: none", -1, 4, 3, 4);
        meets(cases, "two of the highest rank and a lower one, told first: none", -1, 3, 4, 4);
        meets(cases, "two of the highest rank and a lower one, told last: none", -1, 4, 4, 3);
        meets(cases, "two of a lower rank do not hinder the highest", 1, 3, 4, 3);
        meets(cases, "three of one rank: none", -1, 4, 4, 4);
        meets(cases, "twenty, one of them the highest", 19,
                8, 8, 8, 8, 8, 7, 6, 5, 4, 3, 2, 1, 0, 0, 0, 0, 0, 0, 0, 9);
        meets(cases, "twenty, two of them the highest", -1,
                9, 8, 8, 8, 8, 7, 6, 5, 4, 3, 2, 1, 0, 0, 0, 0, 0, 0, 0, 9);
        cases.test("begins in slots side by side do not meet", check -> {
            ChannelRows x = Worlds.units(2, 8);
            x.speak(0, 2, 1, 4);
            x.speak(1, 3, 1, 4);
            check.onInSlots(x, 0, 1, -1, 0, 1, -1);
        });
        cases.test("begins in the day's first slot meet", check -> {
            ChannelRows x = Worlds.units(2, 8);
            x.speak(0, 0, 1, 4);
            x.speak(1, 0, 1, 4);
            check.onInSlots(x, 0, 0, -1, -1);
        });
        cases.test("begins in the day's last slot meet", check -> {
            ChannelRows x = Worlds.units(2, 8);
            x.speak(0, 7, 1, 4);
            x.speak(1, 7, 1, 5);
            check.onInSlots(x, 0, 6, -1, 1);
            check.endedAs(x, 0, LOST, 0);
        });
    }

    private static void noneIsOn(Cases cases) {
        cases.test("none is on in the day's first slot", check -> {
            ChannelRows x = Worlds.units(1, 8);
            x.speak(0, 0, 2, 0);
            check.onInSlots(x, 0, 0, 0, 0, -1);
        });
        cases.test("none is on in the day's last slot", check -> {
            ChannelRows x = Worlds.units(1, 8);
            x.speak(0, 7, 1, 0);
            check.onInSlots(x, 0, 6, -1, 0);
            check.endedAs(x, 0, WELL, 1);
        });
        cases.test("just behind the last slot of another, of any rank", check -> {
            ChannelRows x = Worlds.units(2, 8);
            x.speak(0, 0, 2, 9);
            x.speak(1, 2, 2, 0);
            check.onInSlots(x, 0, 0, 0, 0, 1, 1, -1);
            check.endedAs(x, 1, WELL, 2);
        });
        cases.test("just behind one that the limit cut", check -> {
            ChannelRows x = Worlds.units(2, 8);
            x.limit(2);
            x.speak(0, 0, 5, 9);
            x.speak(1, 2, 2, 0);
            check.onInSlots(x, 0, 0, 0, 0, 1, 1, -1);
        });
        cases.test("just behind one without words", check -> {
            ChannelRows x = Worlds.units(2, 8);
            x.speak(0, 0, 0, 9);
            x.speak(1, 1, 1, 0);
            check.onInSlots(x, 0, 0, 0, 1, -1);
        });
        cases.test("behind lost ones none is on", check -> {
            ChannelRows x = Worlds.units(3, 8);
            x.speak(0, 0, 5, 9);
            x.speak(1, 0, 5, 9);
            x.speak(2, 1, 2, 0);
            check.onInSlots(x, 0, 0, -1, 2, 2, -1);
        });
    }

    private static void ranksThatBreakIn(Cases cases) {
        for (int rank = 0; rank <= 9; rank++) {
            for (int other = Math.max(0, rank - 1); other <= Math.min(9, rank + 1); other++) {
                int of = rank;
                int by = other;
                cases.test("rank " + of + " is on, rank " + by + " calls", check -> {
                    ChannelRows x = Worlds.units(2, 8);
                    x.speak(0, 0, 4, of);
                    x.speak(1, 1, 2, by);
                    boolean breaksIn = by > of;
                    check.endedAs(x, 0, breaksIn ? CUT : WELL, breaksIn ? 2 : 4);
                    check.endedAs(x, 1, breaksIn ? WELL : LOST, breaksIn ? 2 : 0);
                });
            }
        }
        cases.test("rank 9 breaks in on rank 0", check -> {
            ChannelRows x = Worlds.units(2, 8);
            x.speak(0, 0, 4, 0);
            x.speak(1, 1, 2, 9);
            check.onInSlots(x, 0, 0, 0, 0, 1, 1, -1);
        });
        cases.test("a unit breaks in on itself", check -> {
            ChannelRows x = Worlds.units(1, 8);
            x.speak(0, 0, 4, 1);
            x.speak(0, 1, 2, 2);
            check.onInSlots(x, 0, 0, 0, 0, 1, 1, -1);
            check.endedAs(x, 0, CUT, 2);
        });
    }

    /** Message 0 alone would be on in slots 1 .. 4; a higher rank begins in each slot about it. */
    private static void breakInSlots(Cases cases) {
        breaksIn(cases, "in the slot before it", 0, LOST, 0, 1, 1, -1, -1, -1, -1, -1, -1);
        breaksIn(cases, "in the slot where it begins", 1, LOST, 0, -1, 1, 1, -1, -1, -1, -1, -1);
        breaksIn(cases, "in its second slot", 2, CUT, 2, -1, 0, 0, 1, 1, -1, -1, -1);
        breaksIn(cases, "in its last slot but one", 3, CUT, 3, -1, 0, 0, 0, 1, 1, -1, -1);
        breaksIn(cases, "in its last slot", 4, WELL, 4, -1, 0, 0, 0, 0, 1, 1, -1);
        breaksIn(cases, "in the slot behind it", 5, WELL, 4, -1, 0, 0, 0, 0, 1, 1, -1);
        breaksIn(cases, "two slots behind it", 6, WELL, 4, -1, 0, 0, 0, 0, -1, 1, 1);
    }

    private static void breaksIn(Cases cases, String name, int slot, int how, int slots, int... on) {
        cases.test("a higher rank begins " + name, check -> {
            ChannelRows x = broken(slot);
            check.onInSlots(x, 0, 0, on);
            check.endedAs(x, 0, how, slots);
            check.endedAs(x, 1, WELL, 2);
        });
    }

    private static ChannelRows broken(int slot) {
        ChannelRows x = Worlds.units(2, 8);
        x.speak(0, 1, 4, 3);
        x.speak(1, slot, 2, 4);
        return x;
    }

    private static void lastSlotAnyway(Cases cases) {
        cases.test("its last slot by length: it ends well", check -> {
            ChannelRows x = Worlds.units(2, 8);
            x.speak(0, 1, 3, 1);
            x.speak(1, 3, 2, 2);
            check.endedAs(x, 0, WELL, 3);
            check.endedAs(x, 1, WELL, 2);
            check.onInSlots(x, 0, 3, 0, 1, 1, -1);
        });
        cases.test("its last slot by length, without words", check -> {
            ChannelRows x = Worlds.units(3, 8);
            x.speak(0, 1, 4, 1);
            x.speak(1, 2, 0, 2);
            x.speak(2, 3, 1, 3);
            check.endedAs(x, 1, WELL, 1);
            check.onInSlots(x, 0, 1, 0, 0, 1, 2, -1);
        });
        cases.test("its last slot by the limit: it is cut by the limit", check -> {
            ChannelRows x = Worlds.units(2, 8);
            x.limit(3);
            x.speak(0, 0, 8, 1);
            x.speak(1, 2, 2, 2);
            check.endedAs(x, 0, BY_LIMIT, 3);
            check.onInSlots(x, 0, 0, 0, 0, 0, 1, 1, -1);
        });
        cases.test("its last slot but one by the limit: it is cut", check -> {
            ChannelRows x = Worlds.units(2, 8);
            x.limit(4);
            x.speak(0, 0, 8, 1);
            x.speak(1, 2, 2, 2);
            check.endedAs(x, 0, CUT, 3);
        });
        cases.test("its last slot by the day: it is cut by the day", check -> {
            ChannelRows x = Worlds.units(2, 8);
            x.speak(0, 5, 9, 1);
            x.speak(1, 7, 2, 2);
            check.endedAs(x, 0, BY_DAY, 3);
            check.endedAs(x, 1, BY_DAY, 0);
        });
        cases.test("its last slot but one by the day: it is cut", check -> {
            ChannelRows x = Worlds.units(2, 8);
            x.speak(0, 5, 9, 1);
            x.speak(1, 6, 1, 2);
            check.endedAs(x, 0, CUT, 2);
            check.endedAs(x, 1, WELL, 1);
        });
        cases.test("its last slot by length and by the day: it ends well", check -> {
            ChannelRows x = Worlds.units(2, 8);
            x.speak(0, 5, 3, 1);
            x.speak(1, 7, 1, 2);
            check.endedAs(x, 0, WELL, 3);
        });
        cases.test("its last slot by the limit and by the day: it is cut by the limit", check -> {
            ChannelRows x = Worlds.units(2, 8);
            x.limit(3);
            x.speak(0, 5, 4, 1);
            x.speak(1, 7, 1, 2);
            check.endedAs(x, 0, BY_LIMIT, 3);
        });
    }

    private static void fromTheNextSlot(Cases cases) {
        cases.test("three break in in a row", check -> {
            ChannelRows x = Worlds.units(4, 12);
            x.speak(0, 1, 9, 1);
            x.speak(1, 2, 9, 2);
            x.speak(2, 3, 9, 3);
            x.speak(3, 4, 2, 4);
            check.onInSlots(x, 0, 0, -1, 0, 0, 1, 2, 3, 3, -1);
            check.endedAs(x, 0, CUT, 2);
            check.endedAs(x, 1, CUT, 1);
            check.endedAs(x, 2, CUT, 1);
            check.endedAs(x, 3, WELL, 2);
        });
        cases.test("one that broke in is not yet on in the slot of its begin", check -> {
            ChannelRows x = broken(2);
            check.due("on", 0, x.on(0, 2));
            check.due("hears", 102, x.hears(1, 2));
            check.due("its own slot", 201, x.hears(0, 3));
        });
        cases.test("one that broke in meets an equal rank in its first slot", check ->
                thirdCaller(check, 4, new int[] {0, 0, 1, 1}, LOST));
        cases.test("one that broke in meets a lower rank in its first slot", check ->
                thirdCaller(check, 0, new int[] {0, 0, 1, 1}, LOST));
        cases.test("one that broke in meets a higher rank in its first slot", check ->
                thirdCaller(check, 5, new int[] {0, 0, 1, 2}, WELL));
        cases.test("the caller takes its own length, from the next slot", check -> {
            ChannelRows x = Worlds.units(2, 200);
            x.speak(0, 0, 99, 0);
            x.speak(1, 97, 99, 1);
            check.endedAs(x, 0, CUT, 98);
            check.endedAs(x, 1, WELL, 99);
            check.due("its last slot", 1, x.on(0, 196));
            check.due("behind it", -1, x.on(0, 197));
        });
        cases.test("the limit counts from the next slot", check -> {
            ChannelRows x = broken(2);
            x.limit(1);
            check.endedAs(x, 1, BY_LIMIT, 1);
            x.limit(2);
            check.endedAs(x, 1, WELL, 2);
        });
    }

    /** In slots 1 .. 4; message 1 broke in in slot 2, and another one begins in its first slot, 3. */
    private static void thirdCaller(Check check, int rank, int[] on, int how) {
        ChannelRows x = Worlds.units(3, 8);
        x.speak(0, 1, 4, 3);
        x.speak(1, 2, 2, 4);
        x.speak(2, 3, 1, rank);
        check.onInSlots(x, 0, 1, on);
        check.due("ended", how, x.ended(2));
        check.endedAs(x, 1, rank > 4 ? CUT : WELL, rank > 4 ? 1 : 2);
    }

    private static void callersThatAreLost(Cases cases) {
        cases.test("two of a higher rank: both are lost, the one that is on goes on", check -> {
            ChannelRows x = Worlds.units(3, 8);
            x.speak(0, 0, 4, 3);
            x.speak(1, 1, 2, 9);
            x.speak(2, 1, 2, 9);
            check.onInSlots(x, 0, 0, 0, 0, 0, 0, -1);
            check.endedAs(x, 1, LOST, 0);
            check.endedAs(x, 2, LOST, 0);
        });
        cases.test("of two callers the higher one breaks in", check -> {
            ChannelRows x = Worlds.units(3, 8);
            x.speak(0, 0, 4, 3);
            x.speak(1, 1, 2, 4);
            x.speak(2, 1, 2, 5);
            check.onInSlots(x, 0, 0, 0, 0, 2, 2, -1);
            check.endedAs(x, 1, LOST, 0);
        });
        cases.test("in the last slot of one of an equal rank: lost, though it is free next", check -> {
            ChannelRows x = Worlds.units(2, 8);
            x.speak(0, 0, 2, 3);
            x.speak(1, 1, 2, 3);
            check.onInSlots(x, 0, 0, 0, 0, -1, -1);
            check.endedAs(x, 1, LOST, 0);
        });
        cases.test("a lost one does not stand in another's way", check -> {
            ChannelRows x = Worlds.units(3, 8);
            x.speak(0, 0, 2, 3);
            x.speak(1, 1, 5, 3);
            x.speak(2, 2, 2, 0);
            check.onInSlots(x, 0, 0, 0, 0, 2, 2, -1);
            check.endedAs(x, 2, WELL, 2);
        });
        cases.test("a lost one does not keep a later one of lower rank from calling", check -> {
            ChannelRows x = Worlds.units(4, 8);
            x.speak(0, 0, 5, 9);
            x.speak(1, 0, 5, 9);
            x.speak(2, 1, 3, 0);
            x.speak(3, 2, 2, 1);
            check.onInSlots(x, 0, 0, -1, 2, 2, 3, 3, -1);
        });
    }

    private static void wellOrByTheLimit(Cases cases) {
        ending(cases, "length 3, no limit", 0, 3, 0, WELL, 3);
        ending(cases, "length 3, limit 4", 0, 3, 4, WELL, 3);
        ending(cases, "length 3, limit 3: well", 0, 3, 3, WELL, 3);
        ending(cases, "length 3, limit 2", 0, 3, 2, BY_LIMIT, 2);
        ending(cases, "length 3, limit 1", 0, 3, 1, BY_LIMIT, 1);
        ending(cases, "no words, limit 1: well", 0, 0, 1, WELL, 1);
        ending(cases, "one word, limit 1: well", 0, 1, 1, WELL, 1);
        ending(cases, "two words, limit 1", 0, 2, 1, BY_LIMIT, 1);
        ending(cases, "the whole day, limit 1000", 0, 8, 1000, WELL, 8);
    }

    private static void byTheDay(Cases cases) {
        ending(cases, "ends in the day's last slot but one", 4, 3, 0, WELL, 3);
        ending(cases, "ends in the day's last slot: well", 5, 3, 0, WELL, 3);
        ending(cases, "one word too long for the day", 5, 4, 0, BY_DAY, 3);
        ending(cases, "one word in the last slot", 7, 1, 0, WELL, 1);
        ending(cases, "no words in the last slot", 7, 0, 0, WELL, 1);
        ending(cases, "two words in the last slot", 7, 2, 0, BY_DAY, 1);
        ending(cases, "99 words from the first slot", 0, 99, 0, BY_DAY, 8);
        ending(cases, "the limit in the day's last slot: it would not go on", 5, 9, 3, BY_LIMIT, 3);
        ending(cases, "the limit one slot behind the day", 5, 9, 4, BY_DAY, 3);
        ending(cases, "the limit one slot before the day's end", 5, 9, 2, BY_LIMIT, 2);
        ending(cases, "two words in the last slot, limit 1", 7, 2, 1, BY_LIMIT, 1);
        ending(cases, "limit 1000 does not reach the day's end first", 0, 9, 1000, BY_DAY, 8);
    }

    /** One message alone in a day of 8 slots. */
    private static void ending(Cases cases, String name, int from, int words, int limit, int how,
            int slots) {
        cases.test(name, check -> {
            ChannelRows x = Worlds.units(1, 8);
            x.limit(limit);
            x.speak(0, from, words, 0);
            check.endedAs(x, 0, how, slots);
            for (int slot = 0; slot < 8; slot++) {
                boolean on = slot >= from && slot < from + slots;
                check.due("on(0, " + slot + ")", on ? 0 : -1, x.on(0, slot));
            }
        });
    }

    private static void behindTheDay(Cases cases) {
        for (int words : new int[] {0, 1, 99}) {
            cases.test("on from behind the day, " + words + " words", check -> {
                ChannelRows x = Worlds.units(2, 8);
                x.speak(0, 6, 9, 1);
                x.speak(1, 7, words, 2);
                check.endedAs(x, 0, BY_DAY, 2);
                check.endedAs(x, 1, BY_DAY, 0);
                check.onInSlots(x, 0, 6, 0, 0);
            });
        }
        cases.test("on from behind the day, where the one before ends well", check -> {
            ChannelRows x = Worlds.units(2, 8);
            x.speak(0, 6, 2, 1);
            x.speak(1, 7, 1, 2);
            check.endedAs(x, 0, WELL, 2);
            check.endedAs(x, 1, BY_DAY, 0);
        });
        cases.test("on from behind the day, where the limit is reached there", check -> {
            ChannelRows x = Worlds.units(2, 8);
            x.limit(2);
            x.speak(0, 6, 5, 1);
            x.speak(1, 7, 5, 2);
            check.endedAs(x, 0, BY_LIMIT, 2);
            check.endedAs(x, 1, BY_DAY, 0);
        });
        cases.test("from the day's last slot but one it is on in the last", check -> {
            ChannelRows x = Worlds.units(2, 8);
            x.speak(0, 5, 9, 1);
            x.speak(1, 6, 2, 2);
            check.endedAs(x, 0, CUT, 2);
            check.endedAs(x, 1, BY_DAY, 1);
            check.onInSlots(x, 0, 5, 0, 0, 1);
        });
        cases.test("two from behind the longest day meet: lost", check -> {
            ChannelRows x = Worlds.units(3, 1000);
            x.speak(0, 990, 99, 1);
            x.speak(1, 999, 1, 2);
            check.endedAs(x, 1, BY_DAY, 0);
            x.speak(2, 999, 1, 2);
            check.endedAs(x, 1, LOST, 0);
            check.endedAs(x, 0, BY_DAY, 10);
        });
    }

    private static void groupsApart(Cases cases) {
        cases.test("for each group: begins of two groups do not meet", check -> {
            ChannelRows x = Worlds.day(8);
            for (int c = 0; c < 6; c++) {
                x.unit(0, 0, 0, c);
                x.speak(c, 3, 2, 5);
            }
            for (int c = 0; c < 6; c++) {
                check.onInSlots(x, c, 2, -1, c, c, -1);
            }
        });
        cases.test("for each group: a rank does not break in on another group", check -> {
            ChannelRows x = Worlds.day(8);
            x.unit(0, 0, 0, 0);
            x.unit(0, 0, 0, 1);
            x.speak(0, 0, 5, 0);
            x.speak(1, 1, 2, 9);
            check.onInSlots(x, 0, 0, 0, 0, 0, 0, 0, -1);
            check.onInSlots(x, 1, 0, -1, 1, 1, -1);
            x.patch(0, 1);
            check.onInSlots(x, 0, 0, 0, 0, 1, 1, -1, -1);
        });
        cases.test("for each group: an order of ranks runs over its channels", check -> {
            ChannelRows x = Worlds.day(8);
            x.patch(0, 2);
            x.patch(2, 4);
            for (int c = 0; c < 6; c++) {
                x.unit(0, 0, 0, c);
            }
            x.speak(0, 1, 4, 1);
            x.speak(4, 2, 4, 2);
            x.speak(2, 3, 1, 3);
            x.speak(1, 3, 1, 9);
            check.onInSlots(x, 4, 0, -1, 0, 0, 1, 2, -1);
            check.onInSlots(x, 1, 2, -1, 3, -1);
        });
    }
}
