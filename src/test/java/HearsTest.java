/** Promise 11: hears. */
public final class HearsTest {
    public static void main(String[] args) {
        Check check = new Check();
        wordsOfMessages(check);
        reach(check);
        groupsAndSpeakers(check);
        wrongInputs(check);
        check.close();
    }

    private static void wordsOfMessages(Check check) {
        ChannelRows x = new ChannelRows();
        x.day(200);
        x.unit(0, 0, 10, 0);
        x.unit(0, 0, 10, 0);
        x.speak(0, 0, 99, 0);
        x.speak(0, 100, 0, 0);
        x.speak(0, 101, 1, 0);
        check.heardInSlots(x, 1, 0, 101, 102, 103);
        check.heardInSlots(x, 1, 97, 198, 199, 0, 200, 301, 0);
        x.speak(1, 50, 2, 1);
        check.heardInSlots(x, 1, 49, 150, 151, 0, 0, 0);
        check.heardInSlots(x, 0, 49, 0, 0, 401, 402, 0);
    }

    private static void reach(Check check) {
        ChannelRows x = new ChannelRows();
        x.day(2);
        x.unit(100, 100, 25, 0);
        int[][] inReach = {{107, 124}, {93, 76}, {115, 80}, {100, 125}, {75, 100}, {100, 100}};
        int[][] outOfReach = {{108, 124}, {92, 76}, {115, 79}, {100, 126}, {74, 100}};
        x.speak(0, 0, 1, 0);
        x.unit(0, 0, 9999, 0);
        for (int[] p : inReach) {
            x.go(1, p[0], p[1], 0);
            check.due("at " + p[0] + ", " + p[1], 101, x.hears(1, 0));
        }
        for (int[] p : outOfReach) {
            x.go(1, p[0], p[1], 0);
            check.due("at " + p[0] + ", " + p[1], 0, x.hears(1, 0));
        }
        farAndNear(check);
    }

    private static void farAndNear(Check check) {
        ChannelRows x = new ChannelRows();
        x.day(2);
        x.unit(0, 0, 9999, 0);
        x.unit(9999, 0, 0, 0);
        x.unit(9999, 1, 0, 0);
        x.unit(9999, 9999, 0, 0);
        x.unit(0, 9999, 0, 0);
        x.speak(0, 0, 1, 0);
        check.due("along one side", 101, x.hears(1, 0));
        check.due("a bit more", 0, x.hears(2, 0));
        check.due("the far corner", 0, x.hears(3, 0));
        check.due("along the other side", 101, x.hears(4, 0));
        x.unit(9999, 1, 9999, 0);
        x.speak(2, 1, 1, 0);
        check.due("without reach, at the same point", 201, x.hears(5, 1));
        check.due("without reach, beside it", 0, x.hears(1, 1));
    }

    private static void groupsAndSpeakers(Check check) {
        ChannelRows x = new ChannelRows();
        x.day(3);
        x.unit(0, 0, 10, 0);
        x.unit(0, 0, 10, 1);
        x.speak(0, 1, 1, 0);
        check.heardInSlots(x, 0, 0, 0, 0, 0);
        check.heardInSlots(x, 1, 0, 0, 0, 0);
        x.patch(0, 1);
        check.heardInSlots(x, 0, 0, 0, 0, 0);
        check.heardInSlots(x, 1, 0, 0, 101, 0);
        x.repeater(0, 0, 10, 0);
        check.heardInSlots(x, 0, 0, 0, 0, 0);
    }

    private static void wrongInputs(Check check) {
        ChannelRows x = new ChannelRows();
        x.day(3);
        x.unit(0, 0, 10, 0);
        check.refused("unit below", Check.ARGUMENT, () -> x.hears(-1, 0));
        check.refused("unit above", Check.ARGUMENT, () -> x.hears(1, 0));
        check.refused("no unit, no slot", Check.ARGUMENT, () -> x.hears(1, 3));
        check.refused("slot below", Check.ARRAY_INDEX, () -> x.hears(0, -1));
        check.refused("slot above", Check.ARRAY_INDEX, () -> x.hears(0, 3));
        check.due("nothing is on", 0, x.hears(0, 2));
    }
}
