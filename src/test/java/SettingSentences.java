import java.util.function.ToIntBiFunction;

/** Promises 6 to 10, sentence by sentence: the four limits, and setAlive. */
final class SettingSentences extends SentenceGroup {
    private static final ToIntBiFunction<FloodBus, Integer> TRANSMISSIONS = FloodBus::setTransmissionLimit;
    private static final ToIntBiFunction<FloodBus, Integer> MARGIN = FloodBus::setCaptureMargin;
    private static final ToIntBiFunction<FloodBus, Integer> SLOTS = FloodBus::setSlotLimit;
    private static final ToIntBiFunction<FloodBus, Integer> TAKEOVER = FloodBus::setTakeoverLimit;

    SettingSentences(Sentences doc) {
        super(doc);
    }

    @Override
    void ask() {
        inPromise(6);
        holds("Sets how many times every node transmits in a flood.", this::everyNodeTransmitsSoOften);
        holds("`count`: 1 to 4", () -> takesAll(TRANSMISSIONS, 1, 4));
        holds("Returns the previous limit", () -> answersThePrevious(TRANSMISSIONS, 2, 1, 4));
        holds("INVALID_VALUE if count is out of range.", () -> refusesOthers(TRANSMISSIONS, 1, 4));
        inPromise(7);
        holds("Sets the capture margin.", this::marginDecides);
        holds("`margin`: 1 to 9", () -> takesAll(MARGIN, 1, 9));
        holds("Returns the previous margin", () -> answersThePrevious(MARGIN, 3, 1, 9));
        holds("INVALID_VALUE if margin is out of range.", () -> refusesOthers(MARGIN, 1, 9));
        inPromise(8);
        holds("Sets the greatest number of schedule entries in a round.", this::slotsLimitTheSchedule);
        holds("`slots`: 0 to 6", () -> takesAll(SLOTS, 0, 6));
        holds("Returns the previous limit", () -> answersThePrevious(SLOTS, 3, 0, 6));
        holds("INVALID_VALUE if slots is out of range.", () -> refusesOthers(SLOTS, 0, 6));
        inPromise(9);
        holds("Sets how many schedules a node must have missed in a row before it may become host.", this::takeoverAfterSoMany);
        holds("`count`: 1 to 9", () -> takesAll(TAKEOVER, 1, 9));
        holds("Returns the previous limit", () -> answersThePrevious(TAKEOVER, 2, 1, 9));
        holds("INVALID_VALUE if count is out of range.", () -> refusesOthers(TAKEOVER, 1, 9));
        inPromise(10);
        holds("Sets a node alive or dead.", this::setsAliveOrDead);
        holds("A node that is set dead stays host if it is host.", this::aDeadHostStaysHost);
        holds("The call changes neither the result of the latest flood nor any waiting packet.", this::leavesFloodAndPackets);
        holds("`node`: node index", this::nodesOfSetAlive);
        holds("`alive`: the new state", this::theNewState);
        holds("Returns 1 if the node was alive before, 0 if it was dead", this::answersTheStateBefore);
        holds("INVALID_INDEX if node is not a valid index.", this::setAliveOfNoNode);
    }

    private void takesAll(ToIntBiFunction<FloodBus, Integer> setter, int low, int high) {
        for (int value = low; value <= high; value++) {
            FloodBus bus = busy();
            setter.applyAsInt(bus, value);
            is("the limit after " + value + " was set", setter.applyAsInt(bus, low), value);
        }
        is("one below the range", setter.applyAsInt(busy(), low - 1), INVALID_VALUE);
        is("one above the range", setter.applyAsInt(busy(), high + 1), INVALID_VALUE);
    }

    private void answersThePrevious(ToIntBiFunction<FloodBus, Integer> setter, int first, int low, int high) {
        FloodBus bus = new FloodBus();
        is("the first call", setter.applyAsInt(bus, high), first);
        is("the same value again", setter.applyAsInt(bus, high), high);
        is("down to the lowest", setter.applyAsInt(bus, low), high);
        is("a refused call", setter.applyAsInt(bus, low - 1), INVALID_VALUE);
        is("after a refused call", setter.applyAsInt(bus, high), low);
    }

    private void refusesOthers(ToIntBiFunction<FloodBus, Integer> setter, int low, int high) {
        int[] others = {low - 1, high + 1, low - 2, high + 2, -1, 10, 256 + low, -high, Integer.MIN_VALUE, Integer.MAX_VALUE};
        for (int value : others) {
            refused("a new bus and " + value, FloodBus::new, bus -> setter.applyAsInt(bus, value), INVALID_VALUE);
            refused("a busy bus and " + value, SentenceGroup::busy, bus -> setter.applyAsInt(bus, value), INVALID_VALUE);
        }
    }

    private void everyNodeTransmitsSoOften() {
        for (int limit = 1; limit <= 4; limit++) {
            FloodBus bus = loaded("4;015;125");
            bus.setTransmissionLimit(limit);
            bus.flood(1);
            row("transmissions, limit " + limit, bus::transmissions, limit, limit, limit, 0);
            bus.runRounds(1);
            row("transmissions with a round, limit " + limit, bus::transmissions, 2 * limit, 2 * limit, 2 * limit, 0);
        }
    }

    private void marginDecides() {
        for (int margin = 1; margin <= 9; margin++) {
            FloodBus bus = loaded("3;021;129");
            bus.setCaptureMargin(margin);
            bus.flood(3);
            is("packetAt(2), 9 against 1, margin " + margin, bus.packetAt(2), margin <= 8 ? 1 : NONE);
        }
    }

    private void slotsLimitTheSchedule() {
        for (int slots = 0; slots <= 6; slots++) {
            FloodBus bus = loaded("2");
            bus.setSlotLimit(slots);
            for (int i = 0; i < 6; i++) {
                bus.addStream(0, 1, 0);
            }
            is("runRounds(1), slot limit " + slots, bus.runRounds(1), slots);
            is("the last entry", bus.scheduledStream(slots - 1), slots - 1);
            is("no entry behind it", bus.scheduledStream(slots), NONE);
        }
    }

    private void takeoverAfterSoMany() {
        for (int limit = 1; limit <= 9; limit++) {
            FloodBus bus = loaded("2;015");
            bus.setTakeoverLimit(limit);
            bus.setAlive(0, false);
            if (limit > 1) {
                bus.runRounds(limit - 1);
            }
            is("host() after one schedule less than " + limit, bus.host(), 0);
            bus.runRounds(1);
            is("host() after " + limit + " schedules", bus.host(), 1);
        }
    }

    private void setsAliveOrDead() {
        FloodBus bus = loaded("3;015;125");
        bus.setAlive(1, false);
        is("flood(2) of a dead node", bus.flood(2), INVALID_STATE);
        is("flood(1) towards it", bus.flood(1), 1);
        bus.setAlive(1, true);
        is("flood(2) of a node that is alive again", bus.flood(2), 3);
        is("flood(1) over it", bus.flood(1), 3);
    }

    private void aDeadHostStaysHost() {
        FloodBus bus = loaded("3;015;125");
        bus.setAlive(0, false);
        is("host() that was set dead", bus.host(), 0);
        bus.setAlive(0, true);
        is("host() that is alive again", bus.host(), 0);
        bus.setAlive(1, false);
        is("host() when another was set dead", bus.host(), 0);
        bus.setAlive(1, true);
        bus.setTakeoverLimit(1);
        bus.setAlive(0, false);
        bus.runRounds(1);
        bus.setAlive(1, false);
        is("host() that took over and was set dead", bus.host(), 1);
        bus.setAlive(0, true);
        is("host() when the old one is alive again", bus.host(), 1);
    }

    private void leavesFloodAndPackets() {
        FloodBus bus = loaded("3;015;125");
        bus.setSlotLimit(0);
        bus.addStream(1, 1, 0);
        bus.addStream(0, 1, 0);
        bus.runRounds(5);
        bus.flood(2);
        for (int node = 0; node < 3; node++) {
            bus.setAlive(node, false);
        }
        bus.setAlive(2, true);
        row("packetAt", bus::packetAt, 1, 1, 1);
        row("hopCount", bus::hopCount, 1, 0, 1);
        is("floodLength()", bus.floodLength(), 4);
        row("waitingPackets", bus::waitingPackets, 4, 4);
        row("lostPackets", bus::lostPackets, 1, 1);
        row("transmissions", bus::transmissions, 12, 12, 12);
    }

    private void nodesOfSetAlive() {
        for (int nodes = 2; nodes <= 8; nodes++) {
            for (int node = 0; node < nodes; node++) {
                FloodBus bus = loaded("" + nodes);
                is("setAlive(" + node + ", false)", bus.setAlive(node, false), 1);
                for (int other = 0; other < nodes; other++) {
                    is("setAlive(" + other + ", true) after it", bus.setAlive(other, true), other == node ? 0 : 1);
                }
            }
            is("setAlive of the node behind the last", loaded("" + nodes).setAlive(nodes, false), INVALID_INDEX);
        }
    }

    private void theNewState() {
        FloodBus bus = loaded("2;015");
        bus.setAlive(1, true);
        is("flood(2) after true", bus.flood(2), 2);
        bus.setAlive(1, false);
        is("flood(2) after false", bus.flood(2), INVALID_STATE);
        bus.setAlive(1, false);
        is("flood(2) after false twice", bus.flood(2), INVALID_STATE);
        bus.setAlive(1, true);
        is("flood(2) after true again", bus.flood(2), 2);
    }

    private void answersTheStateBefore() {
        FloodBus bus = loaded("2");
        is("alive, true", bus.setAlive(1, true), 1);
        is("alive, false", bus.setAlive(1, false), 1);
        is("dead, false", bus.setAlive(1, false), 0);
        is("dead, true", bus.setAlive(1, true), 0);
        is("alive, true again", bus.setAlive(1, true), 1);
    }

    private void setAliveOfNoNode() {
        int[] wrong = {-1, 5, 7, 8, 255, Integer.MIN_VALUE, Integer.MAX_VALUE};
        for (int node : wrong) {
            refused("setAlive(" + node + ", false)", SentenceGroup::busy, bus -> bus.setAlive(node, false), INVALID_INDEX);
            refused("setAlive(" + node + ", true)", SentenceGroup::busy, bus -> bus.setAlive(node, true), INVALID_INDEX);
        }
        for (int node = -1; node <= 8; node++) {
            int asked = node;
            refused("setAlive(" + node + ", false) without a network", FloodBus::new, bus -> bus.setAlive(asked, false), INVALID_INDEX);
            refused("setAlive(" + node + ", true) without a network", FloodBus::new, bus -> bus.setAlive(asked, true), INVALID_INDEX);
        }
    }
}
