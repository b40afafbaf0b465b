import java.util.ArrayList;
import java.util.List;

/**
 * What can be learnt of a bus by asking all its questions and then using it on; the bus is used up by it.
 * So a difference is seen also in what no question tells: limits, links, periods, the ages of waiting packets.
 */
final class Trace {
    static final int NO_DIFFERENCE = -1;

    private final FloodBus bus;
    private final List<Long> answers = new ArrayList<>();

    private Trace(FloodBus bus) {
        this.bus = bus;
    }

    static int firstDifference(FloodBus one, FloodBus other) {
        List<Long> first = of(one);
        List<Long> second = of(other);
        for (int i = 0; i < first.size(); i++) {
            if (!first.get(i).equals(second.get(i))) {
                return i;
            }
        }
        return NO_DIFFERENCE;
    }

    private static List<Long> of(FloodBus bus) {
        Trace trace = new Trace(bus);
        trace.askAll();
        trace.useLimits();
        trace.useRounds();
        trace.useFloods();
        trace.useBuffer();
        return trace.answers;
    }

    private void note(long answer) {
        answers.add(answer);
    }

    private void askAll() {
        note(bus.digest());
        note(bus.errorPosition());
        note(bus.floodLength());
        note(bus.scheduleBits());
        note(bus.host());
        note(bus.roundNumber());
        for (int i = -1; i <= 8; i++) {
            note(bus.packetAt(i));
            note(bus.hopCount(i));
            note(bus.missedSchedules(i));
            note(bus.transmissions(i));
        }
        for (int i = -1; i <= 6; i++) {
            note(bus.waitingPackets(i));
            note(bus.deliveredPackets(i));
            note(bus.lostPackets(i));
            note(bus.scheduledStream(i));
        }
    }

    /** One slot a round lets the ages of the waiting packets be seen. */
    private void useLimits() {
        note(bus.setTransmissionLimit(2));
        note(bus.setCaptureMargin(1));
        note(bus.setSlotLimit(1));
        note(bus.setTakeoverLimit(2));
    }

    private void useRounds() {
        for (int i = 0; i < 20; i++) {
            note(bus.runRounds(1));
            note(bus.digest());
        }
    }

    private void useFloods() {
        int[] masks = {1, 2, 4, 8, 16, 32, 64, 128, 3, 5, 6};
        for (int mask : masks) {
            note(bus.flood(mask));
            note(bus.digest());
        }
    }

    private void useBuffer() {
        note(bus.append('5'));
        note(bus.errorPosition());
        note(bus.loadNetwork());
        note(bus.flood(1));
        note(bus.flood(2));
        note(bus.digest());
        note(bus.clearBuffer());
    }
}
