import java.util.LinkedHashMap;
import java.util.Map;
import java.util.function.Supplier;
import java.util.function.ToIntFunction;

/** The paragraph "Error codes", with every error of every method; the single promises ask for more values. */
final class ErrorSentences extends SentenceGroup {
    private final Map<String, ToIntFunction<FloodBus>> noIndex = new LinkedHashMap<>();
    private final Map<String, ToIntFunction<FloodBus>> noValue = new LinkedHashMap<>();

    ErrorSentences(Sentences doc) {
        super(doc);
        noIndex.put("setAlive(8, false)", bus -> bus.setAlive(8, false));
        noIndex.put("setAlive(-1, true)", bus -> bus.setAlive(-1, true));
        noIndex.put("packetAt(8)", bus -> bus.packetAt(8));
        noIndex.put("hopCount(8)", bus -> bus.hopCount(8));
        noIndex.put("missedSchedules(8)", bus -> bus.missedSchedules(8));
        noIndex.put("transmissions(8)", bus -> bus.transmissions(8));
        noIndex.put("addStream(8, 1, 0)", bus -> bus.addStream(8, 1, 0));
        noIndex.put("removeStream(6)", bus -> bus.removeStream(6));
        noIndex.put("removeStream(-1)", bus -> bus.removeStream(-1));
        noIndex.put("waitingPackets(6)", bus -> bus.waitingPackets(6));
        noIndex.put("deliveredPackets(6)", bus -> bus.deliveredPackets(6));
        noIndex.put("lostPackets(6)", bus -> bus.lostPackets(6));
        noValue.put("append(31)", bus -> bus.append(31));
        noValue.put("setTransmissionLimit(0)", bus -> bus.setTransmissionLimit(0));
        noValue.put("setTransmissionLimit(5)", bus -> bus.setTransmissionLimit(5));
        noValue.put("setCaptureMargin(0)", bus -> bus.setCaptureMargin(0));
        noValue.put("setCaptureMargin(10)", bus -> bus.setCaptureMargin(10));
        noValue.put("setSlotLimit(-1)", bus -> bus.setSlotLimit(-1));
        noValue.put("setSlotLimit(7)", bus -> bus.setSlotLimit(7));
        noValue.put("setTakeoverLimit(0)", bus -> bus.setTakeoverLimit(0));
        noValue.put("setTakeoverLimit(10)", bus -> bus.setTakeoverLimit(10));
        noValue.put("flood(0)", bus -> bus.flood(0));
        noValue.put("flood(256)", bus -> bus.flood(256));
        noValue.put("runRounds(0)", bus -> bus.runRounds(0));
        noValue.put("runRounds(21)", bus -> bus.runRounds(21));
    }

    @Override
    void ask() {
        inParagraph("Error codes");
        holds("A method that returns an error code changes nothing.", this::changesNothing);
        holds("Where several errors apply, the one that is listed first in the method's documentation is returned.", this::firstListed);
    }

    private void refusedEverywhere(Map<String, ToIntFunction<FloodBus>> calls, int error) {
        Map<String, Supplier<FloodBus>> states = new LinkedHashMap<>();
        states.put(" of a new bus", FloodBus::new);
        states.put(" with a description", () -> Due.typed("3;015"));
        states.put(" of a new network", () -> loaded("3;015"));
        states.put(" of a busy bus", SentenceGroup::busy);
        states.put(" of a full bus", SentenceGroup::full);
        calls.forEach((call, question) -> states.forEach((state, maker) -> refused(call + state, maker, question, error)));
    }

    private void changesNothing() {
        refusedEverywhere(noIndex, INVALID_INDEX);
        refusedEverywhere(noValue, INVALID_VALUE);
        refused("loadNetwork() of half a description", SentenceGroup::busy, FloodBus::loadNetwork, INVALID_STATE);
        refused("flood(16) of a dead node", SentenceGroup::busy, bus -> bus.flood(16), INVALID_STATE);
        refused("runRounds(1) without a network", FloodBus::new, bus -> bus.runRounds(1), INVALID_STATE);
        refused("addStream(0, 0, 0)", SentenceGroup::busy, bus -> bus.addStream(0, 0, 0), INVALID_VALUE);
        refused("addStream(0, 1, 100)", SentenceGroup::busy, bus -> bus.addStream(0, 1, 100), INVALID_VALUE);
        refused("addStream(0, 1, 0) when full", SentenceGroup::full, bus -> bus.addStream(0, 1, 0), CAPACITY_EXCEEDED);
        refused("append(50) when full", SentenceGroup::full, bus -> bus.append(50), CAPACITY_EXCEEDED);
        FloodBus late = late();
        long before = late.digest();
        is("runRounds(20) in round 9980", late.runRounds(20), CAPACITY_EXCEEDED);
        is("digest() after it", late.digest(), before);
        everyChangeIsSeen();
    }

    /** "Changes nothing" says something only if the twins would tell a change: here each call does change the bus. */
    private void everyChangeIsSeen() {
        Map<String, ToIntFunction<FloodBus>> calls = new LinkedHashMap<>();
        calls.put("setTransmissionLimit(4)", bus -> bus.setTransmissionLimit(4));
        calls.put("setCaptureMargin(3)", bus -> bus.setCaptureMargin(3));
        calls.put("setSlotLimit(1)", bus -> bus.setSlotLimit(1));
        calls.put("setTakeoverLimit(3)", bus -> bus.setTakeoverLimit(3));
        calls.put("append(53)", bus -> bus.append(53));
        calls.put("clearBuffer()", FloodBus::clearBuffer);
        calls.put("setAlive(4, true)", bus -> bus.setAlive(4, true));
        calls.put("setAlive(1, false)", bus -> bus.setAlive(1, false));
        calls.put("flood(1)", bus -> bus.flood(1));
        calls.put("runRounds(1)", bus -> bus.runRounds(1));
        calls.put("addStream(0, 1, 0)", bus -> bus.addStream(0, 1, 0));
        calls.put("removeStream(2)", bus -> bus.removeStream(2));
        calls.forEach((call, question) -> {
            FloodBus changed = busy();
            question.applyAsInt(changed);
            different(call + " changes something", changed, busy());
        });
        int[][] streams = {{0, 1, 0}, {1, 1, 0}, {0, 2, 0}, {0, 2, 1}};
        for (int[] one : streams) {
            for (int[] other : streams) {
                if (one != other) {
                    different("streams of other kinds", withStream(one), withStream(other));
                }
            }
        }
    }

    private static FloodBus withStream(int[] stream) {
        FloodBus bus = busy();
        bus.addStream(stream[0], stream[1], stream[2]);
        return bus;
    }

    private void firstListed() {
        is("append(31) when full", full().append(31), INVALID_VALUE);
        is("flood(48): no node before dead", busy().flood(48), INVALID_VALUE);
        is("flood(-1): negative before dead", busy().flood(-1), INVALID_VALUE);
        is("addStream(5, 0, 100) when full", full().addStream(5, 0, 100), INVALID_INDEX);
        is("addStream(5, 1, 0) when full", full().addStream(5, 1, 0), INVALID_INDEX);
        is("addStream(5, 0, 0)", busy().addStream(5, 0, 0), INVALID_INDEX);
        is("addStream(0, 0, 0) when full", full().addStream(0, 0, 0), INVALID_VALUE);
        is("addStream(0, 1, 100) when full", full().addStream(0, 1, 100), INVALID_VALUE);
        is("runRounds(0) without a network", new FloodBus().runRounds(0), INVALID_VALUE);
        is("runRounds(21) without a network", new FloodBus().runRounds(21), INVALID_VALUE);
        is("runRounds(21) in round 9980", late().runRounds(21), INVALID_VALUE);
    }
}
