import java.util.function.IntUnaryOperator;

/** Promises 6 to 10: the four limits, and setAlive. What the limits do is shown where they are used. */
public final class SettingsTest {
    private static final Due due = new Due("SettingsTest");

    public static void main(String[] args) {
        limit("setTransmissionLimit", new FloodBus()::setTransmissionLimit, 1, 4, 2);
        limit("setCaptureMargin", new FloodBus()::setCaptureMargin, 1, 9, 3);
        limit("setSlotLimit", new FloodBus()::setSlotLimit, 0, 6, 3);
        limit("setTakeoverLimit", new FloodBus()::setTakeoverLimit, 1, 9, 2);
        limitsAreApart();
        promise6Transmits();
        promise7Captures();
        promise8Schedules();
        promise9TakesOver();
        promise10Answers();
        promise10LeavesTheRest();
        promise10MissedCount();
        due.end();
    }

    private static void limit(String name, IntUnaryOperator setter, int low, int high, int first) {
        int before = first;
        for (int value = low; value <= high; value++) {
            due.is(name + "(" + value + ")", setter.applyAsInt(value), before);
            due.is(name + "(too low)", setter.applyAsInt(low - 1), FloodBus.INVALID_VALUE);
            due.is(name + "(too high)", setter.applyAsInt(high + 1), FloodBus.INVALID_VALUE);
            due.is(name + "(far too low)", setter.applyAsInt(Integer.MIN_VALUE), FloodBus.INVALID_VALUE);
            due.is(name + "(far too high)", setter.applyAsInt(Integer.MAX_VALUE), FloodBus.INVALID_VALUE);
            before = value;
        }
        due.is(name + "(low)", setter.applyAsInt(low), high);
    }

    private static void limitsAreApart() {
        FloodBus bus = new FloodBus();
        bus.setTransmissionLimit(4);
        bus.setCaptureMargin(5);
        bus.setSlotLimit(6);
        bus.setTakeoverLimit(7);
        due.is("setTransmissionLimit(1)", bus.setTransmissionLimit(1), 4);
        due.is("setCaptureMargin(1)", bus.setCaptureMargin(1), 5);
        due.is("setSlotLimit(1)", bus.setSlotLimit(1), 6);
        due.is("setTakeoverLimit(1)", bus.setTakeoverLimit(1), 7);
    }

    private static void promise6Transmits() {
        FloodBus bus = Due.loaded("3;015;125");
        int sent = 0;
        for (int limit = 1; limit <= 4; limit++) {
            bus.setTransmissionLimit(limit);
            due.is("flood(1)", bus.flood(1), 3);
            sent += limit;
            due.row("transmissions", bus::transmissions, sent, sent, sent);
            due.is("floodLength()", bus.floodLength(), 2 + 2 * (limit - 1) + 1);
        }
        bus.setTransmissionLimit(1);
        due.is("floodLength() is that of the latest flood", bus.floodLength(), 9);
    }

    private static void promise7Captures() {
        for (int margin = 1; margin <= 9; margin++) {
            for (int strength = 1; strength <= 9; strength++) {
                FloodBus bus = Due.loaded("3;021;12" + strength);
                bus.setCaptureMargin(margin);
                bus.flood(3);
                due.is("packetAt(2), margin " + margin + ", strengths 1 and " + strength, bus.packetAt(2),
                    strength - 1 >= margin ? 1 : -1);
            }
        }
    }

    private static void promise8Schedules() {
        for (int slots = 0; slots <= 6; slots++) {
            FloodBus bus = Due.loaded("2;015");
            for (int i = 0; i < 6; i++) {
                bus.addStream(0, 1, 0);
            }
            bus.setSlotLimit(slots);
            due.is("runRounds(1), slot limit " + slots, bus.runRounds(1), slots);
            for (int entry = 0; entry < 7; entry++) {
                due.is("scheduledStream(" + entry + ")", bus.scheduledStream(entry), entry < slots ? entry : -1);
            }
            due.is("scheduleBits()", bus.scheduleBits(), slots == 1 ? 11 : 8 + 3 * slots);
        }
    }

    private static void promise9TakesOver() {
        for (int limit = 1; limit <= 9; limit++) {
            FloodBus bus = Due.loaded("2;015");
            bus.setTakeoverLimit(limit);
            bus.setAlive(0, false);
            for (int round = 1; round < limit; round++) {
                bus.runRounds(1);
                due.is("host(), round " + round + " of " + limit, bus.host(), 0);
                due.is("missedSchedules(1)", bus.missedSchedules(1), round);
            }
            bus.runRounds(1);
            due.is("host(), takeover limit " + limit, bus.host(), 1);
            due.is("missedSchedules(1)", bus.missedSchedules(1), 0);
        }
    }

    private static void promise10Answers() {
        FloodBus bus = Due.loaded("3;015;125");
        int[] wrong = {-1, 3, 8, Integer.MIN_VALUE, Integer.MAX_VALUE};
        for (int node : wrong) {
            due.is("setAlive(" + node + ", false)", bus.setAlive(node, false), FloodBus.INVALID_INDEX);
            due.is("setAlive(" + node + ", true)", bus.setAlive(node, true), FloodBus.INVALID_INDEX);
        }
        for (int node = 0; node < 3; node++) {
            due.is("setAlive true, alive before", bus.setAlive(node, true), 1);
            due.is("setAlive false, alive before", bus.setAlive(node, false), 1);
            due.is("setAlive false, dead before", bus.setAlive(node, false), 0);
            due.is("setAlive true, dead before", bus.setAlive(node, true), 0);
        }
        bus.setAlive(1, false);
        due.is("flood(1) past a dead node", bus.flood(1), 1);
        due.is("flood(5) past a dead node", bus.flood(5), 2);
        bus.setAlive(1, true);
        due.is("flood(1) over it, alive again", bus.flood(1), 3);
    }

    private static void promise10LeavesTheRest() {
        FloodBus bus = Due.loaded("3;015;125");
        bus.addStream(1, 1, 0);
        bus.setSlotLimit(0);
        bus.runRounds(2);
        bus.flood(2);
        bus.setAlive(0, false);
        bus.setAlive(1, false);
        due.is("host() that is dead", bus.host(), 0);
        due.row("packetAt", bus::packetAt, 1, 1, 1);
        due.row("hopCount", bus::hopCount, 1, 0, 1);
        due.is("floodLength()", bus.floodLength(), 4);
        due.is("waitingPackets(0)", bus.waitingPackets(0), 2);
        due.row("transmissions", bus::transmissions, 6, 6, 6);
    }

    private static void promise10MissedCount() {
        FloodBus bus = Due.loaded("3;015");
        bus.runRounds(3);
        due.is("missedSchedules(2)", bus.missedSchedules(2), 3);
        bus.setAlive(2, true);
        due.is("missedSchedules(2) after no change", bus.missedSchedules(2), 3);
        bus.setAlive(2, false);
        due.is("missedSchedules(2) when dead", bus.missedSchedules(2), 0);
        bus.runRounds(2);
        due.is("missedSchedules(2) stays 0 when dead", bus.missedSchedules(2), 0);
        bus.setAlive(2, false);
        bus.setAlive(2, true);
        due.is("missedSchedules(2) alive again", bus.missedSchedules(2), 0);
        bus.runRounds(1);
        due.is("missedSchedules(2) counts again", bus.missedSchedules(2), 1);
    }
}
