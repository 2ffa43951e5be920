/** Objects that cases begin with. */
final class Worlds {
    private Worlds() {
    }

    static ChannelRows day(int slots) {
        ChannelRows x = new ChannelRows();
        x.day(slots);
        return x;
    }

    static ChannelRows emptyDay() {
        return day(8);
    }

    /** Units near each other that all hear each other, on channel 0. */
    static ChannelRows units(int howMany, int slots) {
        ChannelRows x = day(slots);
        for (int i = 0; i < howMany; i++) {
            x.unit(i, 0, 100, 0);
        }
        return x;
    }

    /**
     * Something of everything, in 8 slots: message 0 (on in 1 .. 3) ended well and unit 1 heard it, 1 is
     * cut by the limit, 2 by the day, 3 is lost; slot 5 is lost to noise.
     */
    static ChannelRows busy() {
        ChannelRows x = day(8);
        x.unit(0, 0, 10, 0);
        x.unit(10, 0, 10, 0);
        x.unit(20, 0, 10, 1);
        x.unit(0, 0, 50, 2);
        x.repeater(10, 0, 10, 0);
        x.repeater(30, 0, 5, 5);
        x.patch(0, 1);
        x.limit(4);
        x.speak(0, 1, 3, 5);
        x.speak(2, 4, 6, 3);
        x.speak(3, 6, 5, 1);
        x.speak(1, 2, 1, 5);
        x.lose(5);
        return x;
    }

    /** Two on each of the channels 0 and 1, then four on each of the others. */
    static ChannelRows fullOfUnits() {
        ChannelRows x = day(8);
        for (int i = 0; i < 20; i++) {
            x.unit(i, 0, 100, i < 4 ? i / 2 : 2 + i / 4 % 4);
        }
        return x;
    }

    static ChannelRows fullOfRepeaters() {
        ChannelRows x = units(2, 8);
        for (int i = 0; i < 8; i++) {
            x.repeater(i, 0, i, i % 6);
        }
        x.speak(0, 0, 2, 0);
        return x;
    }

    /** Message 0 (on in slot 7) ended well and unit 1 heard it; the others begin in slots 0 .. 2. */
    static ChannelRows fullOfMessages() {
        ChannelRows x = fullOfUnits();
        x.speak(0, 7, 1, 9);
        for (int i = 1; i < 60; i++) {
            x.speak(i % 20, i / 20, i % 4, i % 10);
        }
        return x;
    }
}
