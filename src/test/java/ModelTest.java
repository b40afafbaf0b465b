import java.util.Random;

/** Runs of calls, made by fixed seeds, on the class and on the model: each answer and each digest must agree. */
public final class ModelTest {
    private static final Due due = new Due("ModelTest");
    private static final int RUNS = 5000;
    /** An object is made for 512 calls; one step of a run takes 75 of them at most, for a network typed anew. */
    private static final int MOST_CALLS = 512 - 75;
    private static final int[] FAR = {Integer.MIN_VALUE, Integer.MIN_VALUE + 1, -1000, -2, -1, 0, 1, 64, 255, 256,
        1 << 30, Integer.MAX_VALUE - 1, Integer.MAX_VALUE};

    private final Random random;
    private final FloodBus bus = new FloodBus();
    private final Model model = new Model();
    private final String name;
    private int calls = 0;

    private ModelTest(long seed) {
        random = new Random(seed);
        name = "seed " + seed + ": ";
    }

    public static void main(String[] args) {
        for (int seed = 0; seed < RUNS; seed++) {
            ModelTest run = new ModelTest(seed);
            run.typeNetwork();
            while (run.calls <= MOST_CALLS) {
                run.oneCall();
            }
        }
        due.end();
    }

    private int below(int bound) {
        return random.nextInt(bound);
    }

    /** Mostly from low to high, at times just outside, seldom far outside. */
    private int about(int low, int high) {
        int kind = below(40);
        if (kind == 0) {
            return FAR[below(FAR.length)];
        }
        if (kind == 1) {
            return low - 1;
        }
        if (kind == 2) {
            return high + 1;
        }
        return low + below(high - low + 1);
    }

    private void same(String call, long got, long wanted) {
        calls++;
        due.is(name + call, got, wanted);
    }

    private void typeNetwork() {
        StringBuilder text = new StringBuilder();
        int nodes = 2 + below(7);
        text.append(nodes);
        int links = below(14);
        for (int i = 0; i < links; i++) {
            int second = 1 + below(nodes - 1);
            text.append(';').append(below(second)).append(second).append(1 + below(9));
            if (below(3) == 0) {
                text.append(2 + below(below(2) == 0 ? 8 : 2));
            }
        }
        String whole = withoutTwins(text.toString());
        if (below(4) == 0) {
            whole = text.toString();
        }
        same("clearBuffer()", bus.clearBuffer(), model.clearBuffer());
        for (int i = 0; i < whole.length(); i++) {
            int ch = below(600) == 0 ? about(32, 126) : whole.charAt(i);
            same("append(" + ch + ")", bus.append(ch), model.append(ch));
        }
        same("errorPosition() of " + whole, bus.errorPosition(), model.errorPosition());
        same("loadNetwork() of " + whole, bus.loadNetwork(), model.loadNetwork());
        same("digest()", bus.digest(), model.digest());
    }

    private static String withoutTwins(String text) {
        String[] parts = text.split(";");
        StringBuilder kept = new StringBuilder(parts[0]);
        for (int i = 1; i < parts.length; i++) {
            if (kept.indexOf(";" + parts[i].substring(0, 2)) < 0) {
                kept.append(';').append(parts[i]);
            }
        }
        return kept.toString();
    }

    private void oneCall() {
        int kind = below(100);
        if (kind < 30) {
            floodOrRound();
        } else if (kind < 55) {
            change();
        } else if (kind < 96) {
            ask();
        } else if (kind < 99) {
            character();
        } else if (below(3) == 0) {
            typeNetwork();
        }
        same("digest()", bus.digest(), model.digest());
    }

    private void floodOrRound() {
        if (below(2) == 0) {
            int mask = below(3) == 0 ? about(0, 255) : 1 << below(8) | 1 << below(8);
            same("flood(" + mask + ")", bus.flood(mask), model.flood(mask));
        } else {
            int count = below(4) == 0 ? about(1, 20) : 1 + below(3);
            same("runRounds(" + count + ")", bus.runRounds(count), model.runRounds(count));
        }
    }

    private void change() {
        int a = about(0, 8);
        int b = about(1, 9);
        int c = about(0, 99);
        boolean alive = below(3) != 0;
        switch (below(9)) {
            case 0 -> same("setTransmissionLimit", bus.setTransmissionLimit(b), model.setTransmissionLimit(b));
            case 1 -> same("setCaptureMargin", bus.setCaptureMargin(b), model.setCaptureMargin(b));
            case 2 -> same("setSlotLimit", bus.setSlotLimit(a), model.setSlotLimit(a));
            case 3 -> same("setTakeoverLimit", bus.setTakeoverLimit(b), model.setTakeoverLimit(b));
            case 4, 5 -> same("setAlive", bus.setAlive(a, alive), model.setAlive(a, alive));
            case 6 -> same("removeStream", bus.removeStream(a), model.removeStream(a));
            default -> {
                int start = below(4) == 0 ? c : about(0, 30);
                same("addStream", bus.addStream(a, b, start), model.addStream(a, b, start));
            }
        }
    }

    private void ask() {
        int i = about(0, 7);
        switch (below(13)) {
            case 0 -> same("packetAt", bus.packetAt(i), model.packetAt(i));
            case 1 -> same("hopCount", bus.hopCount(i), model.hopCount(i));
            case 2 -> same("floodLength", bus.floodLength(), model.floodLength());
            case 3 -> same("waitingPackets", bus.waitingPackets(i), model.waitingPackets(i));
            case 4 -> same("deliveredPackets", bus.deliveredPackets(i), model.deliveredPackets(i));
            case 5 -> same("lostPackets", bus.lostPackets(i), model.lostPackets(i));
            case 6 -> same("scheduledStream", bus.scheduledStream(i), model.scheduledStream(i));
            case 7 -> same("scheduleBits", bus.scheduleBits(), model.scheduleBits());
            case 8 -> same("host", bus.host(), model.host());
            case 9 -> same("missedSchedules", bus.missedSchedules(i), model.missedSchedules(i));
            case 10 -> same("transmissions", bus.transmissions(i), model.transmissions(i));
            case 11 -> same("roundNumber", bus.roundNumber(), model.roundNumber());
            default -> same("errorPosition", bus.errorPosition(), model.errorPosition());
        }
    }

    private void character() {
        String likely = "2345678;;;;0001112223456789";
        int ch = below(5) == 0 ? about(32, 126) : likely.charAt(below(likely.length()));
        switch (below(8)) {
            case 0 -> same("clearBuffer", bus.clearBuffer(), model.clearBuffer());
            case 1 -> same("loadNetwork", bus.loadNetwork(), model.loadNetwork());
            default -> same("append(" + ch + ")", bus.append(ch), model.append(ch));
        }
        same("errorPosition", bus.errorPosition(), model.errorPosition());
    }
}
