import java.util.ArrayList;
import java.util.List;

/**
 * The document once more, slot by slot and slowly, to compare ChannelRows with.
 *
 * It keeps nothing between calls but what was told. Refusals are answers: the names of the
 * exceptions, in the order in which the document lists them.
 */
final class SlotModel {
    private record Station(int x, int y, int reach, int channel) {
        boolean reaches(Station o) {
            long dx = x - o.x;
            long dy = y - o.y;
            return dx * dx + dy * dy <= (long) reach * reach;
        }
    }

    private record Message(int unit, int begin, int words, int rank, int channel) {
        int whole() {
            return words == 0 ? 1 : words;
        }
    }

    /** What one group's day looks like: for each slot its message, for each message its end. */
    private static final class Air {
        int[] on;
        int[] ended;
        int[] length;
    }

    private int slots = 0;
    private int limit = 0;
    private boolean[] noise = new boolean[0];
    private final boolean[][] patched = new boolean[6][6];
    private final List<Station> units = new ArrayList<>();
    private final List<Station> repeaters = new ArrayList<>();
    private final List<Message> messages = new ArrayList<>();

    Object day(int n) {
        if (n > 1000) return "IllegalArgumentException";
        if (n < 0) return "NegativeArraySizeException";
        slots = n;
        limit = 0;
        noise = new boolean[n];
        for (boolean[] row : patched) java.util.Arrays.fill(row, false);
        units.clear();
        repeaters.clear();
        messages.clear();
        return "done";
    }

    Object unit(int x, int y, int reach, int channel) {
        return station(units, 20, x, y, reach, channel);
    }

    Object repeater(int x, int y, int reach, int channel) {
        return station(repeaters, 8, x, y, reach, channel);
    }

    private Object station(List<Station> to, int most, int x, int y, int reach, int channel) {
        if (!in(x, 9999) || !in(y, 9999) || !in(reach, 9999) || !in(channel, 5)) {
            return "IndexOutOfBoundsException";
        }
        if (to.size() == most) return "UnsupportedOperationException";
        to.add(new Station(x, y, reach, channel));
        return to.size() - 1;
    }

    Object go(int unit, int x, int y, int channel) {
        if (!in(unit, units.size() - 1)) return "IllegalArgumentException";
        if (!in(x, 9999) || !in(y, 9999) || !in(channel, 5)) return "IndexOutOfBoundsException";
        units.set(unit, new Station(x, y, units.get(unit).reach(), channel));
        return "done";
    }

    Object patch(int a, int b) {
        if (!in(a, 5) || !in(b, 5)) return "IndexOutOfBoundsException";
        if (joined(a, b)) return false;
        patched[a][b] = true;
        patched[b][a] = true;
        return true;
    }

    Object limit(int n) {
        if (!in(n, 1000)) return "IndexOutOfBoundsException";
        limit = n;
        return "done";
    }

    Object speak(int unit, int from, int words, int rank) {
        if (!in(unit, units.size() - 1)) return "IllegalArgumentException";
        if (!in(from, slots - 1) || !in(words, 99) || !in(rank, 9)) {
            return "IndexOutOfBoundsException";
        }
        if (begins(unit, from)) return "IllegalStateException";
        return tell(unit, from, words, rank);
    }

    Object relay(int unit, int message, int from, int rank) {
        if (!in(unit, units.size() - 1) || !in(message, messages.size() - 1)) {
            return "IllegalArgumentException";
        }
        if (!in(from, slots - 1) || !in(rank, 9)) return "IndexOutOfBoundsException";
        if (begins(unit, from)) return "IllegalStateException";
        if (!ended(message).equals(0)) return "IllegalStateException";
        int words = messages.get(message).words();
        int[] on = air(units.get(unit).channel()).on;
        for (int w = words == 0 ? 0 : 1; w <= words; w++) {
            boolean heard = false;
            for (int s = 0; s < slots; s++) {
                heard |= heard(on, unit, s) == 100 * (message + 1) + w;
            }
            if (!heard) return "IllegalStateException";
        }
        return tell(unit, from, words, rank);
    }

    private Object tell(int unit, int from, int words, int rank) {
        if (messages.size() == 60) return "UnsupportedOperationException";
        messages.add(new Message(unit, from, words, rank, units.get(unit).channel()));
        return messages.size() - 1;
    }

    Object lose(int slot) {
        if (!in(slot, slots - 1)) return "ArrayIndexOutOfBoundsException";
        noise[slot] ^= true;
        return noise[slot];
    }

    Object hears(int unit, int slot) {
        if (!in(unit, units.size() - 1)) return "IllegalArgumentException";
        if (!in(slot, slots - 1)) return "ArrayIndexOutOfBoundsException";
        return heard(air(units.get(unit).channel()).on, unit, slot);
    }

    /** What a unit hears in a slot, by the row of what is on in its own group. */
    private int heard(int[] on, int unit, int slot) {
        Station me = units.get(unit);
        int m = on[slot];
        if (m < 0 || noise[slot] || messages.get(m).unit() == unit) return 0;
        Station speaker = units.get(messages.get(m).unit());
        boolean inReach = speaker.reaches(me);
        for (Station r : repeaters) {
            inReach |= joined(r.channel(), me.channel()) && speaker.reaches(r) && r.reaches(me);
        }
        if (!inReach) return 0;
        int word = 0;
        if (messages.get(m).words() > 0) {
            for (int s = 0; s <= slot; s++) {
                if (on[s] == m) word++;
            }
        }
        return 100 * (m + 1) + word;
    }

    Object on(int channel, int slot) {
        if (!in(channel, 5)) return "IllegalArgumentException";
        if (!in(slot, slots - 1)) return "ArrayIndexOutOfBoundsException";
        return air(channel).on[slot];
    }

    Object ended(int message) {
        if (!in(message, messages.size() - 1)) return "IllegalArgumentException";
        return air(messages.get(message).channel()).ended[message];
    }

    Object length(int message) {
        if (!in(message, messages.size() - 1)) return "IllegalArgumentException";
        return air(messages.get(message).channel()).length[message];
    }

    Object unheard(int message, int i) {
        if (!in(message, messages.size() - 1)) return "IllegalArgumentException";
        if (i < 0) return "IndexOutOfBoundsException";
        Message m = messages.get(message);
        int[] on = air(m.channel()).on;
        List<Integer> missed = new ArrayList<>();
        for (int u = 0; u < units.size(); u++) {
            if (u == m.unit() || !joined(units.get(u).channel(), m.channel())) continue;
            int slotsOn = 0;
            int slotsHeard = 0;
            for (int s = 0; s < slots; s++) {
                if (on[s] == message) {
                    slotsOn++;
                    if (heard(on, u, s) != 0) slotsHeard++;
                }
            }
            if (slotsOn == 0 || slotsHeard < slotsOn) missed.add(u);
        }
        return i < missed.size() ? missed.get(i) : -1;
    }

    Object used(int channel, int from, int to) {
        if (!in(channel, 5)) return "IllegalArgumentException";
        if (!in(from, slots) || !in(to, slots) || to < from) return "IndexOutOfBoundsException";
        int sum = 0;
        int[] on = air(channel).on;
        for (int s = from; s < to; s++) {
            if (on[s] >= 0) sum++;
        }
        return sum;
    }

    /** Messages that were on go on unless the end of a slot finds a reason that they do not. */
    private Air air(int channel) {
        Air air = new Air();
        air.on = new int[slots];
        air.ended = new int[messages.size()];
        air.length = new int[messages.size()];
        int current = -1;
        for (int s = 0; s < slots; s++) {
            List<Integer> beginning = new ArrayList<>();
            for (int m = 0; m < messages.size(); m++) {
                if (messages.get(m).begin() == s && joined(messages.get(m).channel(), channel)) {
                    beginning.add(m);
                }
            }
            int caller = caller(beginning, air);
            int next = -1;
            if (caller >= 0 && current < 0) {
                current = caller;
            } else if (caller >= 0) {
                if (messages.get(current).rank() < messages.get(caller).rank()) {
                    next = caller;
                } else {
                    air.ended[caller] = 3;
                }
            }
            air.on[s] = current;
            if (current >= 0) {
                current = endOfSlot(current, s, next, air);
            }
            if (next >= 0) {
                current = next;
            }
        }
        if (current >= 0) air.ended[current] = 4;
        return air;
    }

    private int caller(List<Integer> beginning, Air air) {
        int highest = -1;
        for (int m : beginning) highest = Math.max(highest, messages.get(m).rank());
        int caller = -1;
        int ofHighest = 0;
        for (int m : beginning) {
            if (messages.get(m).rank() == highest) {
                caller = m;
                ofHighest++;
            }
        }
        if (ofHighest > 1) caller = -1;
        for (int m : beginning) {
            if (m != caller) air.ended[m] = 3;
        }
        return caller;
    }

    /** The message that is on still behind this slot, or -1. */
    private int endOfSlot(int m, int s, int next, Air air) {
        air.length[m]++;
        if (air.length[m] == messages.get(m).whole()) {
            air.ended[m] = 0;
        } else if (air.length[m] == limit) {
            air.ended[m] = 2;
        } else if (s == slots - 1) {
            air.ended[m] = 4;
        } else if (next >= 0) {
            air.ended[m] = 1;
        } else {
            return m;
        }
        return -1;
    }

    private boolean begins(int unit, int from) {
        for (Message m : messages) {
            if (m.unit() == unit && m.begin() == from) return true;
        }
        return false;
    }

    private boolean joined(int a, int b) {
        boolean[] seen = new boolean[6];
        walk(a, seen);
        return seen[b];
    }

    private void walk(int a, boolean[] seen) {
        if (seen[a]) return;
        seen[a] = true;
        for (int b = 0; b < 6; b++) {
            if (patched[a][b]) walk(b, seen);
        }
    }

    private static boolean in(int value, int most) {
        return value >= 0 && value <= most;
    }
}
