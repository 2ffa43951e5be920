import java.util.Random;
import java.util.concurrent.Callable;

/** Long random runs of calls (of a fixed seed): all promises against the slow model. */
public final class ModelTest {
    private static final int RUNS = 600;
    private static final int CALLS = 512;
    private static final int[] ODD = {
        Integer.MIN_VALUE, Integer.MAX_VALUE, -1, -2, 5, 6, 8, 9, 10, 20, 59, 60, 99, 100, 999,
        1000, 1001, 9999, 10000, 46341, 65536};

    private final Random random;
    private final StringBuilder calls = new StringBuilder();
    private ChannelRows real = new ChannelRows();
    private SlotModel model = new SlotModel();
    private int slots = 0;
    private int channels = 6;
    private int spread = 10;

    private ModelTest(long seed) {
        random = new Random(seed);
    }

    public static void main(String[] args) {
        int wrong = 0;
        for (int run = 0; run < RUNS && wrong < 5; run++) {
            if (!new ModelTest(run).agrees()) {
                wrong++;
            }
        }
        System.out.println(wrong == 0 ? RUNS + " runs are as due" : wrong + " runs are not as due");
        if (wrong != 0) {
            System.exit(1);
        }
    }

    private boolean agrees() {
        channels = 1 + random.nextInt(6);
        spread = 1 + random.nextInt(40);
        int oddOneIn = random.nextBoolean() ? 12 : 200;
        slots = random.nextInt(12) == 0 ? 1000 : random.nextInt(80);
        if (!step("day", slots)) {
            return false;
        }
        for (int i = 1; i < CALLS; i++) {
            boolean asDue = i < 12 && random.nextInt(2) == 0 ? addStation(oddOneIn) : anyCall(oddOneIn);
            if (!asDue) {
                return false;
            }
        }
        return true;
    }

    private boolean addStation(int odd) {
        return step(random.nextInt(5) == 0 ? "repeater" : "unit",
                some(spread, odd), some(spread, odd), some(spread, odd), some(channels, odd));
    }

    private boolean anyCall(int odd) {
        int which = random.nextInt(100);
        if (which < 6) return addStation(odd);
        if (which < 9) return step("go", unit(odd), some(spread, odd), some(spread, odd), some(channels, odd));
        if (which < 10) return step("patch", some(channels, odd), some(channels, odd));
        if (which < 12) return step("limit", random.nextInt(3) == 0 ? 0 : some(12, odd));
        if (which < 30) return step("speak", unit(odd), slot(odd), words(odd), some(10, odd));
        if (which < 38) return step("relay", unit(odd), message(odd), slot(odd), some(10, odd));
        if (which < 41) return step("lose", slot(odd));
        if (which < 55) return step("hears", unit(odd), slot(odd));
        if (which < 65) return step("on", some(6, odd), slot(odd));
        if (which < 75) return step("ended", message(odd));
        if (which < 82) return step("length", message(odd));
        if (which < 92) return step("unheard", message(odd), some(4, odd));
        if (which < 99 || random.nextInt(6) != 0) return usedCall(odd);
        int next = some(60, odd);
        boolean asDue = step("day", next);
        slots = next >= 0 && next <= 1000 ? next : slots;
        return asDue;
    }

    private boolean usedCall(int odd) {
        int a = some(slots + 1, odd);
        int b = some(slots + 1, odd);
        boolean turn = random.nextInt(8) != 0 && a > b;
        return step("used", some(6, odd), turn ? b : a, turn ? a : b);
    }

    private int unit(int odd) {
        return some(8, odd);
    }

    private int message(int odd) {
        return some(random.nextBoolean() ? 12 : 60, odd);
    }

    private int slot(int odd) {
        return some(random.nextInt(3) == 0 ? Math.min(slots, 30) : slots, odd);
    }

    private int words(int odd) {
        return random.nextInt(20) == 0 ? some(100, odd) : some(8, odd);
    }

    private int some(int below, int oddOneIn) {
        if (random.nextInt(oddOneIn) == 0) {
            return ODD[random.nextInt(ODD.length)];
        }
        return below <= 0 ? 0 : random.nextInt(below);
    }

    private boolean step(String name, int... a) {
        calls.append(name).append(java.util.Arrays.toString(a)).append('\n');
        Object want = ofModel(name, a);
        Object got = answer(() -> ofReal(name, a));
        if (!want.equals(got)) {
            System.out.println(calls + "answered " + got + ", due is " + want);
            return false;
        }
        return true;
    }

    private static Object answer(Callable<Object> call) {
        try {
            return call.call();
        } catch (RuntimeException e) {
            return Check.isOfTheMachine(e) ? "the machine's " + e : e.getClass().getSimpleName();
        } catch (Exception e) {
            return e.toString();
        }
    }

    private Object ofReal(String name, int[] a) {
        switch (name) {
            case "day": real.day(a[0]); return "done";
            case "unit": return real.unit(a[0], a[1], a[2], a[3]);
            case "repeater": return real.repeater(a[0], a[1], a[2], a[3]);
            case "go": real.go(a[0], a[1], a[2], a[3]); return "done";
            case "patch": return real.patch(a[0], a[1]);
            case "limit": real.limit(a[0]); return "done";
            case "speak": return real.speak(a[0], a[1], a[2], a[3]);
            case "relay": return real.relay(a[0], a[1], a[2], a[3]);
            case "lose": return real.lose(a[0]);
            case "hears": return real.hears(a[0], a[1]);
            case "on": return real.on(a[0], a[1]);
            case "ended": return real.ended(a[0]);
            case "length": return real.length(a[0]);
            case "unheard": return real.unheard(a[0], a[1]);
            default: return real.used(a[0], a[1], a[2]);
        }
    }

    private Object ofModel(String name, int[] a) {
        switch (name) {
            case "day": return model.day(a[0]);
            case "unit": return model.unit(a[0], a[1], a[2], a[3]);
            case "repeater": return model.repeater(a[0], a[1], a[2], a[3]);
            case "go": return model.go(a[0], a[1], a[2], a[3]);
            case "patch": return model.patch(a[0], a[1]);
            case "limit": return model.limit(a[0]);
            case "speak": return model.speak(a[0], a[1], a[2], a[3]);
            case "relay": return model.relay(a[0], a[1], a[2], a[3]);
            case "lose": return model.lose(a[0]);
            case "hears": return model.hears(a[0], a[1]);
            case "on": return model.on(a[0], a[1]);
            case "ended": return model.ended(a[0]);
            case "length": return model.length(a[0]);
            case "unheard": return model.unheard(a[0], a[1]);
            default: return model.used(a[0], a[1], a[2]);
        }
    }
}
