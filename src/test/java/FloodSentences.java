import java.util.function.ToIntBiFunction;

/** Promises 11 to 14 and 25, sentence by sentence: floods, and what is told of them. */
final class FloodSentences extends SentenceGroup {
    FloodSentences(Sentences doc) {
        super(doc);
    }

    @Override
    void ask() {
        inPromise(11);
        holds("Runs one flood.", this::runsOneFlood);
        holds("The flood replaces the result of the previous flood and adds to the transmission counters of the nodes.", this::replacesAndAdds);
        holds("It does not touch streams, schedules or missed counts.", this::leavesRounds);
        holds("`initiators`: bit mask of the initiators (bit k stands for node k), at least one", this::bitsAndNodes);
        holds("Returns how many nodes hold a packet after the flood, the initiators included", this::numberOfHolders);
        holds("INVALID_VALUE if initiators is 0, negative or has a bit that is not a node (also if there is no network)", this::wrongMasks);
        holds("INVALID_STATE if an initiator is dead.", this::deadInitiators);
        inPromise(12);
        holds("Tells which packet a node holds after the latest flood.", this::packetOfTheLatest);
        holds("A flood that takes place in a round counts, too.", this::floodOfARoundCounts);
        holds("`node`: node index", () -> takesAllNodes(FloodBus::packetAt, NONE));
        holds("Returns the index of the initiator whose packet the node holds", this::indexOfTheInitiator);
        holds("NONE if it holds none or no flood has taken place", () -> noneWithoutAPacket(FloodBus::packetAt));
        holds("INVALID_INDEX if node is not a valid index.", () -> refusesOtherNodes(FloodBus::packetAt));
        inPromise(13);
        holds("Tells the hop count of a node in the latest flood: 0 for an initiator, s + 1 for a node that received its packet in slot s.",
            this::hopsFromSlots);
        holds("`node`: node index", () -> takesAllNodes(FloodBus::hopCount, NONE));
        holds("Returns the hop count", this::hopsOfAChain);
        holds("NONE if the node holds no packet or no flood has taken place", () -> noneWithoutAPacket(FloodBus::hopCount));
        holds("INVALID_INDEX if node is not a valid index.", () -> refusesOtherNodes(FloodBus::hopCount));
        inPromise(14);
        holds("Tells how many slots the latest flood took: 1 plus the number of the last slot in which a node transmitted.", this::lastSlotPlusOne);
        holds("Returns the number of slots", this::longestFloods);
        holds("0 if no flood has taken place.", this::lengthWithoutAFlood);
        inPromise(25);
        holds("Tells how often a node has transmitted in all floods since the network was loaded.", this::sinceTheNetworkWasLoaded);
        holds("`node`: node index", () -> takesAllNodes(FloodBus::transmissions, 0));
        holds("Returns the number of transmissions", this::numberOfTransmissions);
        holds("INVALID_INDEX if node is not a valid index.", () -> refusesOtherNodes(FloodBus::transmissions));
    }

    private void takesAllNodes(ToIntBiFunction<FloodBus, Integer> question, int first) {
        for (int nodes = 2; nodes <= 8; nodes++) {
            FloodBus bus = loaded("" + nodes);
            for (int node = 0; node < nodes; node++) {
                is("node " + node + " of " + nodes, question.applyAsInt(bus, node), first);
            }
            is("node " + nodes + " of " + nodes, question.applyAsInt(bus, nodes), INVALID_INDEX);
            is("node -1 of " + nodes, question.applyAsInt(bus, -1), INVALID_INDEX);
        }
    }

    private void refusesOtherNodes(ToIntBiFunction<FloodBus, Integer> question) {
        int[] wrong = {-1, 5, 6, 7, 8, 9, 31, 256, Integer.MIN_VALUE, Integer.MAX_VALUE};
        for (int node : wrong) {
            refused("node " + node + " of five", SentenceGroup::busy, bus -> question.applyAsInt(bus, node), INVALID_INDEX);
        }
        int[] withoutANetwork = {0, 1, 7, 8, -1, Integer.MIN_VALUE, Integer.MAX_VALUE};
        for (int node : withoutANetwork) {
            refused("node " + node + " without a network", FloodBus::new, bus -> question.applyAsInt(bus, node), INVALID_INDEX);
        }
        FloodBus smaller = loaded("8");
        smaller.flood(255);
        Due.type(smaller, "2");
        smaller.loadNetwork();
        is("node 2 after a smaller network was loaded", question.applyAsInt(smaller, 2), INVALID_INDEX);
    }

    /** Node 2 has no link. */
    private void noneWithoutAPacket(ToIntBiFunction<FloodBus, Integer> question) {
        FloodBus bus = loaded("3;015");
        for (int node = 0; node < 3; node++) {
            is("node " + node + " before a flood", question.applyAsInt(bus, node), NONE);
        }
        bus.setAlive(0, false);
        bus.runRounds(1);
        is("node 1 after a round without a flood", question.applyAsInt(bus, 1), NONE);
        bus.setAlive(0, true);
        bus.flood(8);
        is("node 1 after a refused flood", question.applyAsInt(bus, 1), NONE);
        bus.flood(1);
        is("node 2, which received nothing", question.applyAsInt(bus, 2), NONE);
        bus.flood(4);
        is("node 0, which held a packet in the flood before", question.applyAsInt(bus, 0), NONE);
        bus.setAlive(1, false);
        bus.flood(1);
        is("node 1, which is dead", question.applyAsInt(bus, 1), NONE);
        Due.type(bus, "3;015");
        bus.loadNetwork();
        is("node 0 of a new network", question.applyAsInt(bus, 0), NONE);
    }

    private void runsOneFlood() {
        FloodBus bus = loaded("3;015;125");
        is("flood(2)", bus.flood(2), 3);
        row("transmissions of one flood", bus::transmissions, 2, 2, 2);
        row("packetAt", bus::packetAt, 1, 1, 1);
        is("roundNumber()", bus.roundNumber(), 0);
    }

    private void replacesAndAdds() {
        FloodBus bus = loaded("3;015");
        bus.flood(3);
        bus.flood(4);
        row("packetAt", bus::packetAt, -1, -1, 2);
        row("hopCount", bus::hopCount, -1, -1, 0);
        is("floodLength()", bus.floodLength(), 3);
        row("transmissions", bus::transmissions, 2, 2, 2);
        bus.flood(1);
        row("packetAt", bus::packetAt, 0, 0, -1);
        row("transmissions", bus::transmissions, 4, 4, 2);
        bus.flood(8);
        row("packetAt after a refused flood", bus::packetAt, 0, 0, -1);
    }

    private void leavesRounds() {
        FloodBus bus = loaded("3;015");
        bus.setSlotLimit(1);
        bus.addStream(0, 1, 0);
        bus.addStream(1, 1, 0);
        bus.runRounds(3);
        bus.flood(7);
        bus.flood(4);
        row("waitingPackets", bus::waitingPackets, 1, 2);
        row("deliveredPackets", bus::deliveredPackets, 2, 1);
        row("lostPackets", bus::lostPackets, 0, 0);
        row("scheduledStream", bus::scheduledStream, 0, -1);
        is("scheduleBits()", bus.scheduleBits(), 11);
        row("missedSchedules: a flood is no schedule", bus::missedSchedules, 0, 0, 3);
        is("roundNumber()", bus.roundNumber(), 3);
        bus.setAlive(0, false);
        bus.runRounds(1);
        bus.flood(2);
        is("missedSchedules(1) after it started a flood", bus.missedSchedules(1), 1);
    }

    private void bitsAndNodes() {
        for (int mask = 1; mask <= 255; mask++) {
            FloodBus bus = loaded("8");
            is("flood(" + mask + ")", bus.flood(mask), Integer.bitCount(mask));
            for (int node = 0; node < 8; node++) {
                is("packetAt(" + node + ") of " + mask, bus.packetAt(node), (mask & 1 << node) != 0 ? node : NONE);
            }
        }
        is("flood(0)", loaded("8").flood(0), INVALID_VALUE);
    }

    private void numberOfHolders() {
        FloodBus bus = loaded("5;015;125");
        is("flood(16), the initiator alone", bus.flood(16), 1);
        is("flood(1)", bus.flood(1), 3);
        is("flood(25), two initiators without links", bus.flood(25), 5);
        is("flood(31), all are initiators", bus.flood(31), 5);
        is("flood(5): node 1 hears two packets of equal level", bus.flood(5), 2);
        bus.setAlive(2, false);
        is("flood(1), node 2 dead", bus.flood(1), 2);
    }

    private void wrongMasks() {
        int[] always = {0, -1, -2, -256, Integer.MIN_VALUE, Integer.MIN_VALUE + 1, Integer.MAX_VALUE};
        for (int mask : always) {
            refused("flood(" + mask + ")", SentenceGroup::busy, bus -> bus.flood(mask), INVALID_VALUE);
            refused("flood(" + mask + ") without a network", FloodBus::new, bus -> bus.flood(mask), INVALID_VALUE);
        }
        for (int nodes = 2; nodes <= 8; nodes++) {
            FloodBus bus = loaded("" + nodes);
            for (int bit = nodes; bit < 32; bit++) {
                is("flood of bit " + bit + " of " + nodes + " nodes", bus.flood(1 << bit), INVALID_VALUE);
                is("flood of bits 0 and " + bit + " of " + nodes + " nodes", bus.flood(1 | 1 << bit), INVALID_VALUE);
            }
            is("floodLength() after all these", bus.floodLength(), 0);
            is("flood of all nodes", bus.flood((1 << nodes) - 1), nodes);
        }
        refused("flood(32) of five nodes", SentenceGroup::busy, bus -> bus.flood(32), INVALID_VALUE);
        refused("flood(33) of five nodes", SentenceGroup::busy, bus -> bus.flood(33), INVALID_VALUE);
        for (int bit = 0; bit < 31; bit++) {
            int mask = 1 << bit;
            refused("flood(" + mask + ") without a network", FloodBus::new, bus -> bus.flood(mask), INVALID_VALUE);
        }
    }

    private void deadInitiators() {
        refused("flood(16), the only initiator is dead", SentenceGroup::busy, bus -> bus.flood(16), INVALID_STATE);
        refused("flood(17), one of two is dead", SentenceGroup::busy, bus -> bus.flood(17), INVALID_STATE);
        refused("flood(31), one of five is dead", SentenceGroup::busy, bus -> bus.flood(31), INVALID_STATE);
        refused("flood(48), a dead one and no node", SentenceGroup::busy, bus -> bus.flood(48), INVALID_VALUE);
        for (int dead = 0; dead < 8; dead++) {
            FloodBus bus = loaded("8");
            bus.setAlive(dead, false);
            for (int node = 0; node < 8; node++) {
                is("flood of node " + node + ", node " + dead + " dead", bus.flood(1 << node), node == dead ? INVALID_STATE : 1);
            }
        }
    }

    private void packetOfTheLatest() {
        FloodBus bus = loaded("4;015;125");
        bus.flood(1);
        row("packetAt", bus::packetAt, 0, 0, 0, -1);
        bus.flood(12);
        row("packetAt", bus::packetAt, 2, 2, 2, 3);
        bus.setAlive(1, false);
        row("packetAt after setAlive(1, false)", bus::packetAt, 2, 2, 2, 3);
        bus.flood(9);
        row("packetAt", bus::packetAt, 0, -1, -1, 3);
        bus.flood(2);
        row("packetAt after a refused flood", bus::packetAt, 0, -1, -1, 3);
    }

    private void floodOfARoundCounts() {
        FloodBus bus = loaded("3;015;125");
        bus.flood(4);
        bus.runRounds(1);
        row("packetAt after a schedule", bus::packetAt, 0, 0, 0);
        bus.addStream(1, 1, 0);
        bus.runRounds(1);
        row("packetAt after the flood of a packet", bus::packetAt, 1, 1, 1);
        row("hopCount after the flood of a packet", bus::hopCount, 1, 0, 1);
        bus.setAlive(0, false);
        bus.runRounds(1);
        row("packetAt after a round without a flood", bus::packetAt, 1, 1, 1);
    }

    private void indexOfTheInitiator() {
        FloodBus bus = loaded(CHAIN_OF_EIGHT);
        for (int initiator = 0; initiator < 8; initiator++) {
            bus.flood(1 << initiator);
            row("packetAt, initiator " + initiator, bus::packetAt, initiator, initiator, initiator, initiator, initiator, initiator,
                initiator, initiator);
        }
        bus.flood(129);
        row("packetAt, initiators 0 and 7", bus::packetAt, 0, 0, 0, 0, 7, 7, 7, 7);
    }

    private void hopsFromSlots() {
        FloodBus bus = loaded("5;015;125;2353");
        bus.flood(17);
        // The signal of slot 2 over 2-3 is lost, that of slot 4 arrives.
        row("hopCount", bus::hopCount, 0, 1, 2, 5, 0);
        FloodBus late = loaded("3;0257;125");
        late.setTransmissionLimit(4);
        late.flood(3);
        row("hopCount, received in slot 6", late::hopCount, 0, 0, 7);
    }

    private void hopsOfAChain() {
        FloodBus bus = loaded(CHAIN_OF_EIGHT);
        bus.flood(8);
        row("hopCount", bus::hopCount, 3, 2, 1, 0, 1, 2, 3, 4);
        bus.flood(129);
        row("hopCount", bus::hopCount, 0, 1, 2, 3, 3, 2, 1, 0);
    }

    private void lastSlotPlusOne() {
        FloodBus bus = loaded("4;015;125");
        bus.flood(8);
        is("floodLength(), last slot 2", bus.floodLength(), 3);
        bus.flood(2);
        is("floodLength(), last slot 3", bus.floodLength(), 4);
        bus.flood(1);
        is("floodLength(), last slot 4", bus.floodLength(), 5);
        bus.flood(8);
        is("floodLength() of the latest, not of the longest", bus.floodLength(), 3);
        bus.flood(0);
        is("floodLength() after a refused flood", bus.floodLength(), 3);
        bus.setTransmissionLimit(4);
        is("floodLength() after another limit", bus.floodLength(), 3);
        bus.runRounds(1);
        is("floodLength() of a schedule, last slot 8", bus.floodLength(), 9);
        bus.setAlive(0, false);
        bus.runRounds(1);
        is("floodLength() after a round without a flood", bus.floodLength(), 9);
    }

    private void longestFloods() {
        FloodBus shortest = loaded("2");
        shortest.setTransmissionLimit(1);
        shortest.flood(1);
        is("floodLength() of one transmission", shortest.floodLength(), 1);
        // Loss period 3 makes the packet wait for a second transmission from node 2 on.
        FloodBus bus = loaded("8;0193;1293;2393;3493;4593;5693;6793");
        bus.setTransmissionLimit(4);
        is("flood(1)", bus.flood(1), 8);
        row("hopCount", bus::hopCount, 0, 1, 2, 5, 8, 11, 14, 17);
        is("floodLength()", bus.floodLength(), 24);
    }

    private void lengthWithoutAFlood() {
        FloodBus bus = new FloodBus();
        is("floodLength() without a network", bus.floodLength(), 0);
        bus.flood(1);
        is("floodLength() after a refused flood", bus.floodLength(), 0);
        Due.type(bus, "2;015");
        bus.loadNetwork();
        is("floodLength() of a new network", bus.floodLength(), 0);
        bus.setAlive(0, false);
        bus.runRounds(1);
        is("floodLength() after a round without a flood", bus.floodLength(), 0);
        bus.flood(2);
        is("floodLength() after a flood", bus.floodLength(), 3);
        Due.type(bus, "2");
        bus.loadNetwork();
        is("floodLength() of the next network", bus.floodLength(), 0);
    }

    private void sinceTheNetworkWasLoaded() {
        FloodBus bus = loaded("3;015");
        row("transmissions", bus::transmissions, 0, 0, 0);
        bus.flood(1);
        bus.setTransmissionLimit(4);
        bus.flood(6);
        row("transmissions of two floods", bus::transmissions, 6, 6, 4);
        bus.setTransmissionLimit(1);
        bus.addStream(1, 1, 0);
        bus.runRounds(3);
        row("transmissions with three rounds of two floods", bus::transmissions, 12, 12, 4);
        bus.setAlive(1, false);
        row("transmissions of a node set dead", bus::transmissions, 12, 12, 4);
        bus.setAlive(1, true);
        row("transmissions of a node set alive", bus::transmissions, 12, 12, 4);
        Due.type(bus, "3;01");
        bus.loadNetwork();
        row("transmissions after a refused loadNetwork()", bus::transmissions, 12, 12, 4);
        Due.type(bus, "5");
        bus.loadNetwork();
        row("transmissions since the new network", bus::transmissions, 0, 0, 0);
        bus.flood(1);
        row("transmissions since the new network", bus::transmissions, 1, 1, 0);
    }

    private void numberOfTransmissions() {
        FloodBus bus = loaded("2;015");
        bus.setTransmissionLimit(4);
        bus.setSlotLimit(6);
        for (int i = 0; i < 6; i++) {
            bus.addStream(i % 2, 1, 0);
        }
        int rounds = 0;
        for (int i = 0; i < 400; i++) {
            bus.runRounds(20);
            rounds += 20;
        }
        is("transmissions(0) of seven floods a round", bus.transmissions(0), 28 * rounds);
        is("transmissions(1) of seven floods a round", bus.transmissions(1), 28 * rounds);
    }
}
