import java.util.Arrays;

/**
 * Radio of a day in slots: who is on, who hears which word, who missed what.
 *
 * What is on depends on messages, patches, the limit and the day alone, so it is planned anew
 * whenever one of these changes; reach and noise are looked at when they are asked for.
 */
public final class ChannelRows {
    private static final int MOST_SLOTS = 1000;
    private static final int MOST_LIMIT = 1000;
    private static final int MOST_UNITS = 20;
    private static final int MOST_REPEATERS = 8;
    private static final int MOST_MESSAGES = 60;
    private static final int MOST_PLACE = 9999;
    private static final int MOST_REACH = 9999;
    private static final int MOST_WORDS = 99;
    private static final int MOST_RANK = 9;
    private static final int CHANNELS = 6;

    private static final int ENDED_WELL = 0;
    private static final int ENDED_CUT = 1;
    private static final int ENDED_BY_LIMIT = 2;
    private static final int ENDED_LOST = 3;
    private static final int ENDED_BY_DAY = 4;

    private static final int NO_MESSAGE = -1;
    private static final int NO_UNIT = -1;
    private static final int HEARS_NOTHING = 0;
    private static final int HEARD_MESSAGE_STEP = 100;

    private final Stations units;
    private final Stations repeaters;
    private final Messages messages;
    private final boolean[] noise;
    private final int[] groupOf;
    private final int[] latestOfGroup;
    private int slotsOfDay;
    private int mostSlotsOn;

    public ChannelRows() {
        units = new Stations(MOST_UNITS);
        repeaters = new Stations(MOST_REPEATERS);
        messages = new Messages(MOST_MESSAGES);
        noise = new boolean[MOST_SLOTS];
        groupOf = new int[CHANNELS];
        latestOfGroup = new int[CHANNELS];
        forgetAll();
    }

    public void day(int slots) throws IllegalArgumentException, NegativeArraySizeException {
        if (slots > MOST_SLOTS) {
            throw new IllegalArgumentException("a day of too many slots");
        }
        if (slots < 0) {
            throw new NegativeArraySizeException("a day of fewer than no slots");
        }
        forgetAll();
        slotsOfDay = slots;
    }

    public int unit(int x, int y, int reach, int channel)
            throws IndexOutOfBoundsException, UnsupportedOperationException {
        return place(units, x, y, reach, channel);
    }

    public void go(int unit, int x, int y, int channel)
            throws IllegalArgumentException, IndexOutOfBoundsException {
        needUnit(unit);
        needPlace(x, y, channel);
        units.move(unit, x, y, channel);
    }

    public int repeater(int x, int y, int reach, int channel)
            throws IndexOutOfBoundsException, UnsupportedOperationException {
        return place(repeaters, x, y, reach, channel);
    }

    public boolean patch(int a, int b) throws IndexOutOfBoundsException {
        if (!isChannel(a) || !isChannel(b)) {
            throw new IndexOutOfBoundsException("no such channels");
        }
        if (areJoined(a, b)) {
            return false;
        }
        joinGroups(groupOf[a], groupOf[b]);
        planAll();
        return true;
    }

    public void limit(int slots) throws IndexOutOfBoundsException {
        if (slots < 0 || slots > MOST_LIMIT) {
            throw new IndexOutOfBoundsException("no such limit");
        }
        mostSlotsOn = slots;
        planAll();
    }

    public int speak(int unit, int from, int words, int rank)
            throws IllegalArgumentException, IndexOutOfBoundsException, IllegalStateException,
            UnsupportedOperationException {
        needUnit(unit);
        needBegin(from, rank);
        if (words < 0 || words > MOST_WORDS) {
            throw new IndexOutOfBoundsException("no such words");
        }
        needFreeBegin(unit, from);
        needRoomForMessage();
        return tell(unit, from, words, rank);
    }

    public int relay(int unit, int message, int from, int rank)
            throws IllegalArgumentException, IndexOutOfBoundsException, IllegalStateException,
            UnsupportedOperationException {
        needUnit(unit);
        needMessage(message);
        needBegin(from, rank);
        needFreeBegin(unit, from);
        if (messages.ending[message] != ENDED_WELL || !heardAllSlots(unit, message)) {
            throw new IllegalStateException("the unit has not heard the whole message");
        }
        needRoomForMessage();
        return tell(unit, from, messages.words[message], rank);
    }

    public boolean lose(int slot) throws ArrayIndexOutOfBoundsException {
        needSlot(slot);
        noise[slot] = !noise[slot];
        return noise[slot];
    }

    public int hears(int unit, int slot)
            throws IllegalArgumentException, ArrayIndexOutOfBoundsException {
        needUnit(unit);
        needSlot(slot);
        int message = messageOn(units.channel[unit], slot);
        if (message == NO_MESSAGE || noise[slot] || !receives(unit, message)) {
            return HEARS_NOTHING;
        }
        return HEARD_MESSAGE_STEP * (message + 1) + messages.wordIn(message, slot);
    }

    public int on(int channel, int slot)
            throws IllegalArgumentException, ArrayIndexOutOfBoundsException {
        needChannel(channel);
        needSlot(slot);
        return messageOn(channel, slot);
    }

    public int ended(int message) throws IllegalArgumentException {
        needMessage(message);
        return messages.ending[message];
    }

    public int length(int message) throws IllegalArgumentException {
        needMessage(message);
        return messages.slotsOn[message];
    }

    public int unheard(int message, int i)
            throws IllegalArgumentException, IndexOutOfBoundsException {
        needMessage(message);
        if (i < 0) {
            throw new IndexOutOfBoundsException("no such place among the units");
        }
        int before = 0;
        for (int unit = 0; unit < units.count; unit++) {
            if (missed(unit, message)) {
                if (before == i) {
                    return unit;
                }
                before++;
            }
        }
        return NO_UNIT;
    }

    public int used(int channel, int from, int to)
            throws IllegalArgumentException, IndexOutOfBoundsException {
        needChannel(channel);
        if (from < 0 || to > slotsOfDay || to < from) {
            throw new IndexOutOfBoundsException("no such part of the day");
        }
        int sum = 0;
        for (int m = 0; m < messages.count; m++) {
            if (areJoined(channel, messages.channel[m])) {
                sum += messages.slotsOnWithin(m, from, to);
            }
        }
        return sum;
    }

    private void forgetAll() {
        slotsOfDay = 0;
        mostSlotsOn = 0;
        units.count = 0;
        repeaters.count = 0;
        messages.count = 0;
        for (int slot = 0; slot < MOST_SLOTS; slot++) {
            noise[slot] = false;
        }
        for (int c = 0; c < CHANNELS; c++) {
            groupOf[c] = c;
        }
    }

    private void needUnit(int unit) {
        if (unit < 0 || unit >= units.count) {
            throw new IllegalArgumentException("no such unit");
        }
    }

    private void needMessage(int message) {
        if (message < 0 || message >= messages.count) {
            throw new IllegalArgumentException("no such message");
        }
    }

    private void needChannel(int channel) {
        if (!isChannel(channel)) {
            throw new IllegalArgumentException("no such channel");
        }
    }

    private void needSlot(int slot) {
        if (!isSlot(slot)) {
            throw new ArrayIndexOutOfBoundsException("no such slot");
        }
    }

    private void needPlace(int x, int y, int channel) {
        if (x < 0 || x > MOST_PLACE || y < 0 || y > MOST_PLACE) {
            throw new IndexOutOfBoundsException("no such point");
        }
        if (!isChannel(channel)) {
            throw new IndexOutOfBoundsException("no channel of that number");
        }
    }

    private void needBegin(int from, int rank) {
        if (!isSlot(from)) {
            throw new IndexOutOfBoundsException("no slot of that number");
        }
        if (rank < 0 || rank > MOST_RANK) {
            throw new IndexOutOfBoundsException("no such rank");
        }
    }

    private void needFreeBegin(int unit, int from) {
        if (messages.hasBegin(unit, from)) {
            throw new IllegalStateException("the unit has a message that begins in this slot");
        }
    }

    private void needRoomForMessage() {
        if (messages.count >= MOST_MESSAGES) {
            throw new UnsupportedOperationException("no room for one more message");
        }
    }

    private boolean isChannel(int channel) {
        return channel >= 0 && channel < CHANNELS;
    }

    private boolean isSlot(int slot) {
        return slot >= 0 && slot < slotsOfDay;
    }

    private boolean areJoined(int a, int b) {
        return groupOf[a] == groupOf[b];
    }

    private void joinGroups(int kept, int given) {
        for (int c = 0; c < CHANNELS; c++) {
            if (groupOf[c] == given) {
                groupOf[c] = kept;
            }
        }
    }

    private int place(Stations stations, int x, int y, int reach, int channel) {
        needPlace(x, y, channel);
        if (reach < 0 || reach > MOST_REACH) {
            throw new IndexOutOfBoundsException("no such reach");
        }
        if (stations.isFull()) {
            throw new UnsupportedOperationException("no room for one more");
        }
        return stations.add(x, y, reach, channel);
    }

    private int tell(int unit, int from, int words, int rank) {
        int message = messages.add(unit, units.channel[unit], from, words, rank);
        planAll();
        return message;
    }

    // A message told late may begin early and turn all that follows, so nothing is kept of the plan before.
    private void planAll() {
        Arrays.fill(latestOfGroup, NO_MESSAGE);
        for (int place = 0; place < messages.count; place++) {
            plan(place);
        }
    }

    private void plan(int place) {
        int message = messages.byBegin[place];
        int slot = messages.begin[message];
        int latest = latestOfGroup[groupOf[messages.channel[message]]];
        if (meetsItsBetter(place)) {
            messages.markLost(message);
        } else if (latest == NO_MESSAGE || !messages.isOn(latest, slot)) {
            putOn(message, slot);
        } else if (messages.rank[latest] < messages.rank[message]) {
            messages.cutAfter(latest, slot);
            putOn(message, slot + 1);
        } else {
            messages.markLost(message);
        }
    }

    private boolean meetsItsBetter(int place) {
        int message = messages.byBegin[place];
        boolean meets = false;
        for (int p = place - 1; p >= 0 && messages.beginsWith(p, message); p--) {
            meets = meets || keepsFromCalling(messages.byBegin[p], message);
        }
        for (int p = place + 1; p < messages.count && messages.beginsWith(p, message); p++) {
            meets = meets || keepsFromCalling(messages.byBegin[p], message);
        }
        return meets;
    }

    private boolean keepsFromCalling(int other, int message) {
        return areJoined(messages.channel[other], messages.channel[message])
                && messages.rank[other] >= messages.rank[message];
    }

    private void putOn(int message, int slot) {
        latestOfGroup[groupOf[messages.channel[message]]] = message;
        int whole = Math.max(1, messages.words[message]);
        if (mostSlotsOn > 0 && mostSlotsOn < whole) {
            messages.setOn(message, slot, mostSlotsOn, ENDED_BY_LIMIT);
        } else {
            messages.setOn(message, slot, whole, ENDED_WELL);
        }
        int left = slotsOfDay - slot;
        if (messages.slotsOn[message] > left) {
            messages.setOn(message, slot, left, ENDED_BY_DAY);
        }
    }

    private int messageOn(int channel, int slot) {
        for (int m = 0; m < messages.count; m++) {
            if (messages.isOn(m, slot) && areJoined(channel, messages.channel[m])) {
                return m;
            }
        }
        return NO_MESSAGE;
    }

    private boolean listensTo(int unit, int message) {
        return unit != messages.speaker[message]
                && areJoined(units.channel[unit], messages.channel[message]);
    }

    private boolean receives(int unit, int message) {
        return listensTo(unit, message)
                && (units.reaches(messages.speaker[message], units, unit)
                        || receivesByRepeater(unit, message));
    }

    private boolean receivesByRepeater(int unit, int message) {
        int speaker = messages.speaker[message];
        for (int r = 0; r < repeaters.count; r++) {
            if (areJoined(repeaters.channel[r], messages.channel[message])
                    && units.reaches(speaker, repeaters, r)
                    && repeaters.reaches(r, units, unit)) {
                return true;
            }
        }
        return false;
    }

    private boolean heardAllSlots(int unit, int message) {
        return messages.slotsOn[message] > 0 && receives(unit, message) && !hasNoise(message);
    }

    private boolean missed(int unit, int message) {
        return listensTo(unit, message) && !heardAllSlots(unit, message);
    }

    private boolean hasNoise(int message) {
        int first = messages.firstOn[message];
        int behind = Math.min(first + messages.slotsOn[message], slotsOfDay);
        for (int slot = first; slot < behind; slot++) {
            if (noise[slot]) {
                return true;
            }
        }
        return false;
    }

    /** Rows of what stands at a point with a reach and a channel: units, or repeaters. */
    private static final class Stations {
        final int most;
        final int[] x;
        final int[] y;
        final int[] reach;
        final int[] channel;
        int count;

        Stations(int most) {
            this.most = most;
            x = new int[most];
            y = new int[most];
            reach = new int[most];
            channel = new int[most];
        }

        boolean isFull() {
            return count >= most;
        }

        int add(int atX, int atY, int withReach, int onChannel) {
            int added = count;
            count++;
            reach[added] = withReach;
            move(added, atX, atY, onChannel);
            return added;
        }

        void move(int station, int toX, int toY, int toChannel) {
            x[station] = toX;
            y[station] = toY;
            channel[station] = toChannel;
        }

        // Squares stay below 2 * 10,000 * 10,000 and so within an int.
        boolean reaches(int station, Stations others, int other) {
            int aside = x[station] - others.x[other];
            int ahead = y[station] - others.y[other];
            return aside * aside + ahead * ahead <= reach[station] * reach[station];
        }
    }

    /** Rows of what was told of each message, and of what the plan makes of it. */
    private static final class Messages {
        final int[] speaker;
        final int[] channel;
        final int[] begin;
        final int[] words;
        final int[] rank;
        final int[] firstOn;
        final int[] slotsOn;
        final int[] ending;
        final int[] byBegin;
        int count;

        Messages(int most) {
            speaker = new int[most];
            channel = new int[most];
            begin = new int[most];
            words = new int[most];
            rank = new int[most];
            firstOn = new int[most];
            slotsOn = new int[most];
            ending = new int[most];
            byBegin = new int[most];
        }

        int add(int unit, int onChannel, int from, int wordsSaid, int withRank) {
            int added = count;
            int place = added;
            for (; place > 0 && begin[byBegin[place - 1]] > from; place--) {
                byBegin[place] = byBegin[place - 1];
            }
            byBegin[place] = added;
            count++;
            speaker[added] = unit;
            channel[added] = onChannel;
            begin[added] = from;
            words[added] = wordsSaid;
            rank[added] = withRank;
            return added;
        }

        boolean hasBegin(int unit, int slot) {
            for (int m = 0; m < count; m++) {
                if (speaker[m] == unit && begin[m] == slot) {
                    return true;
                }
            }
            return false;
        }

        boolean beginsWith(int place, int message) {
            return begin[byBegin[place]] == begin[message];
        }

        void setOn(int message, int first, int slots, int how) {
            firstOn[message] = first;
            slotsOn[message] = slots;
            ending[message] = how;
        }

        void markLost(int message) {
            setOn(message, begin[message], 0, ENDED_LOST);
        }

        // A message whose last slot this is anyway keeps its own ending.
        void cutAfter(int message, int slot) {
            int slots = slot - firstOn[message] + 1;
            if (slots < slotsOn[message]) {
                setOn(message, firstOn[message], slots, ENDED_CUT);
            }
        }

        boolean isOn(int message, int slot) {
            return slot >= firstOn[message] && slot - firstOn[message] < slotsOn[message];
        }

        int wordIn(int message, int slot) {
            return words[message] == 0 ? 0 : slot - firstOn[message] + 1;
        }

        int slotsOnWithin(int message, int from, int to) {
            int first = Math.max(from, firstOn[message]);
            int behind = Math.min(to, firstOn[message] + slotsOn[message]);
            return Math.max(0, behind - first);
        }
    }
}
