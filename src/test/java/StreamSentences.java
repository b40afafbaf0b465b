import java.util.function.ToIntBiFunction;

/** The paragraph "Streams" and promises 15 to 19, sentence by sentence. */
final class StreamSentences extends SentenceGroup {
    StreamSentences(Sentences doc) {
        super(doc);
    }

    @Override
    void ask() {
        inParagraph("Streams");
        holds("A stream belongs to a source node and has a period and a start round.", this::sourcePeriodStart);
        holds("A stream generates packets whether its source is alive or dead.", this::deadSourcesGenerate);
        holds("In each round r with r >= start and (r - start) % period == 0 the stream generates one packet.", this::roundsOfGeneration);
        holds("Rounds are numbered from 0.", this::roundZero);
        holds("Each stream keeps its waiting packets in the order of generation.", this::orderOfGeneration);
        holds("A stream keeps at most 4 waiting packets.", this::fourWait);
        holds("A packet generated while 4 packets wait is dropped.", this::theNewPacketIsDropped);
        inPromise(15);
        holds("Adds a stream without waiting packets.", this::nothingWaitsAtFirst);
        holds("Streams are numbered from 0 in the order in which they were added.", this::numberedInOrder);
        holds("`source`: node index of the source; the source may be dead", this::sources);
        holds("`period`: 1 to 9", this::periods);
        holds("`start`: first round in which the stream generates a packet, 0 to 99", this::starts);
        holds("Returns the index of the new stream", this::indexOfTheNewStream);
        holds("INVALID_INDEX if source is not a valid index (checked first)", this::sourceIsCheckedFirst);
        holds("INVALID_VALUE if period or start is out of range", this::wrongPeriodsAndStarts);
        holds("CAPACITY_EXCEEDED if there are 6 streams.", this::sixStreams);
        inPromise(16);
        holds("Removes a stream with its waiting packets and counters.", this::packetsAndCountersGo);
        holds("The index of every later stream decreases by 1.", this::laterStreamsMove);
        holds("The schedule of the latest round becomes empty.", this::scheduleBecomesEmpty);
        holds("`stream`: stream index", this::removesEachIndex);
        holds("Returns the number of streams left", this::numberOfStreamsLeft);
        holds("INVALID_INDEX if stream is not a valid index.", () -> refusesOtherStreams(FloodBus::removeStream));
        inPromise(17);
        holds("Tells how many packets of a stream wait.", this::packetsThatWait);
        holds("`stream`: stream index", () -> takesAllStreams(FloodBus::waitingPackets));
        holds("Returns the number of waiting packets", this::fromNoneToFour);
        holds("INVALID_INDEX if stream is not a valid index.", () -> refusesOtherStreams(FloodBus::waitingPackets));
        inPromise(18);
        holds("Tells how many packets of a stream were delivered.", this::packetsDelivered);
        holds("`stream`: stream index", () -> takesAllStreams(FloodBus::deliveredPackets));
        holds("Returns the number of delivered packets", this::manyPacketsDelivered);
        holds("INVALID_INDEX if stream is not a valid index.", () -> refusesOtherStreams(FloodBus::deliveredPackets));
        inPromise(19);
        holds("Tells how many packets of a stream were lost or dropped.", this::lostOrDropped);
        holds("`stream`: stream index", () -> takesAllStreams(FloodBus::lostPackets));
        holds("Returns the number of lost and dropped packets together", this::lostAndDroppedTogether);
        holds("INVALID_INDEX if stream is not a valid index.", () -> refusesOtherStreams(FloodBus::lostPackets));
    }

    private void takesAllStreams(ToIntBiFunction<FloodBus, Integer> question) {
        for (int streams = 0; streams <= 6; streams++) {
            FloodBus bus = loaded("2");
            for (int i = 0; i < streams; i++) {
                bus.addStream(0, 1, 0);
            }
            for (int stream = 0; stream <= 6; stream++) {
                is("stream " + stream + " of " + streams, question.applyAsInt(bus, stream), stream < streams ? 0 : INVALID_INDEX);
            }
            is("stream -1 of " + streams, question.applyAsInt(bus, -1), INVALID_INDEX);
        }
    }

    private void refusesOtherStreams(ToIntBiFunction<FloodBus, Integer> question) {
        int[] always = {-1, 6, 7, 8, 256, Integer.MIN_VALUE, Integer.MAX_VALUE};
        for (int stream : always) {
            refused("stream " + stream + " without a network", FloodBus::new, bus -> question.applyAsInt(bus, stream), INVALID_INDEX);
            refused("stream " + stream + " of none", () -> loaded("2;015"), bus -> question.applyAsInt(bus, stream), INVALID_INDEX);
            refused("stream " + stream + " of three", SentenceGroup::busy, bus -> question.applyAsInt(bus, stream), INVALID_INDEX);
            refused("stream " + stream + " of six", SentenceGroup::full, bus -> question.applyAsInt(bus, stream), INVALID_INDEX);
        }
        refused("stream 0 without a network", FloodBus::new, bus -> question.applyAsInt(bus, 0), INVALID_INDEX);
        refused("stream 0 of none", () -> loaded("2;015"), bus -> question.applyAsInt(bus, 0), INVALID_INDEX);
        refused("stream 3 of three", SentenceGroup::busy, bus -> question.applyAsInt(bus, 3), INVALID_INDEX);
        refused("stream 5 after one of six was removed", StreamSentences::fiveOfSix, bus -> question.applyAsInt(bus, 5), INVALID_INDEX);
        FloodBus anew = full();
        anew.loadNetwork();
        is("stream 0 of a new network", question.applyAsInt(anew, 0), INVALID_INDEX);
    }

    private static FloodBus fiveOfSix() {
        FloodBus bus = full();
        bus.removeStream(2);
        return bus;
    }

    private void sourcePeriodStart() {
        FloodBus bus = loaded("3;015;125");
        bus.addStream(2, 3, 1);
        int[] delivered = {0, 1, 0, 0, 1, 0};
        for (int round = 0; round < delivered.length; round++) {
            is("runRounds(1), round " + round, bus.runRounds(1), delivered[round]);
            is("packetAt(0): who started the latest flood", bus.packetAt(0), delivered[round] == 1 ? 2 : 0);
        }
    }

    private void deadSourcesGenerate() {
        FloodBus bus = loaded("2;015");
        bus.setSlotLimit(0);
        bus.addStream(1, 1, 0);
        bus.runRounds(1);
        bus.setAlive(1, false);
        bus.runRounds(2);
        is("waitingPackets(0): one alive, two dead", bus.waitingPackets(0), 3);
        bus.setAlive(1, true);
        bus.runRounds(1);
        is("waitingPackets(0), alive again", bus.waitingPackets(0), 4);
        FloodBus host = loaded("2;015");
        host.addStream(0, 1, 0);
        host.setAlive(0, false);
        host.runRounds(1);
        is("waitingPackets(0) of a dead host", host.waitingPackets(0), 1);
    }

    private void roundsOfGeneration() {
        int[] starts = {0, 1, 5, 98, 99};
        for (int period = 1; period <= 9; period++) {
            for (int start : starts) {
                FloodBus bus = loaded("2");
                bus.addStream(0, period, start);
                for (int round = 0; round <= 120; round++) {
                    boolean generates = round >= start && (round - start) % period == 0;
                    is("runRounds(1), period " + period + ", start " + start + ", round " + round, bus.runRounds(1), generates ? 1 : 0);
                }
            }
        }
        FloodBus late = loaded("2");
        late.runRounds(7);
        late.addStream(0, 4, 1);
        is("runRounds(2), rounds 7 and 8, added behind its start", late.runRounds(2), 0);
        is("runRounds(1), round 9", late.runRounds(1), 1);
    }

    private void roundZero() {
        FloodBus bus = loaded("2");
        bus.addStream(0, 9, 0);
        bus.addStream(0, 9, 1);
        is("runRounds(1), round 0", bus.runRounds(1), 1);
        row("deliveredPackets", bus::deliveredPackets, 1, 0);
        is("runRounds(1), round 1", bus.runRounds(1), 1);
        row("deliveredPackets", bus::deliveredPackets, 1, 1);
    }

    /** Stream 0 has packets of rounds 1 and 3, stream 1 of round 2: the oldest decides at each step. */
    private void orderOfGeneration() {
        FloodBus bus = loaded("2");
        bus.setSlotLimit(0);
        bus.addStream(0, 2, 1);
        bus.addStream(0, 9, 2);
        bus.runRounds(4);
        bus.setSlotLimit(1);
        int[] served = {0, 1, 0};
        for (int i = 0; i < served.length; i++) {
            bus.runRounds(1);
            is("scheduledStream(0), round " + (4 + i), bus.scheduledStream(0), served[i]);
        }
    }

    private void fourWait() {
        FloodBus bus = loaded("2");
        bus.setSlotLimit(0);
        bus.addStream(0, 1, 0);
        is("waitingPackets(0) at first", bus.waitingPackets(0), 0);
        int[] waiting = {1, 2, 3, 4, 4, 4};
        for (int round = 0; round < waiting.length; round++) {
            bus.runRounds(1);
            is("waitingPackets(0) after round " + round, bus.waitingPackets(0), waiting[round]);
        }
        bus.runRounds(20);
        is("waitingPackets(0) after 26 rounds", bus.waitingPackets(0), 4);
    }

    /**
     * Stream 0 keeps rounds 0 to 3; those of 4, 5 and 6 are dropped. Stream 1 has a packet of round 4.
     * Round 6 to 9 serve the kept ones; in round 10 the oldest of stream 0 is that of round 7, so stream 1 comes first.
     */
    private void theNewPacketIsDropped() {
        FloodBus bus = loaded("2");
        bus.setSlotLimit(0);
        bus.addStream(0, 1, 0);
        bus.addStream(0, 9, 4);
        bus.runRounds(4);
        row("lostPackets, four wait", bus::lostPackets, 0, 0);
        bus.runRounds(1);
        row("lostPackets, the fifth", bus::lostPackets, 1, 0);
        bus.runRounds(1);
        row("lostPackets, the sixth", bus::lostPackets, 2, 0);
        bus.setSlotLimit(1);
        int[] served = {0, 0, 0, 0, 1, 0};
        int[] lost = {3, 3, 3, 3, 3, 4};
        for (int i = 0; i < served.length; i++) {
            is("runRounds(1), round " + (6 + i), bus.runRounds(1), 1);
            is("scheduledStream(0), round " + (6 + i), bus.scheduledStream(0), served[i]);
            is("lostPackets(0), round " + (6 + i), bus.lostPackets(0), lost[i]);
        }
    }

    private void nothingWaitsAtFirst() {
        FloodBus bus = loaded("2");
        bus.runRounds(10);
        bus.addStream(0, 1, 0);
        is("waitingPackets(0)", bus.waitingPackets(0), 0);
        is("deliveredPackets(0)", bus.deliveredPackets(0), 0);
        is("lostPackets(0)", bus.lostPackets(0), 0);
        for (int removed = 0; removed < 6; removed++) {
            FloodBus used = sixDifferent();
            used.removeStream(removed);
            used.addStream(0, 9, 99);
            is("waitingPackets(5) in the place of stream " + removed, used.waitingPackets(5), 0);
            is("deliveredPackets(5) in the place of stream " + removed, used.deliveredPackets(5), 0);
            is("lostPackets(5) in the place of stream " + removed, used.lostPackets(5), 0);
            is("runRounds(1): the other five go on", used.runRounds(1), 5);
            is("waitingPackets(5) after it", used.waitingPackets(5), 0);
        }
    }

    private void numberedInOrder() {
        FloodBus bus = loaded("2");
        bus.setSlotLimit(6);
        for (int i = 0; i < 6; i++) {
            is("addStream", bus.addStream(0, 9, i), i);
        }
        for (int round = 0; round < 6; round++) {
            bus.runRounds(1);
            is("scheduledStream(0), the stream that starts in round " + round, bus.scheduledStream(0), round);
        }
    }

    private void sources() {
        FloodBus bus = loaded("8");
        is("addStream(8, 1, 0)", bus.addStream(8, 1, 0), INVALID_INDEX);
        is("addStream(-1, 1, 0)", bus.addStream(-1, 1, 0), INVALID_INDEX);
        is("addStream(0, 1, 0)", bus.addStream(0, 1, 0), 0);
        is("addStream(7, 1, 0)", bus.addStream(7, 1, 0), 1);
        bus.setAlive(3, false);
        is("addStream(3, 1, 0) of a dead node", bus.addStream(3, 1, 0), 2);
        bus.setAlive(0, false);
        is("addStream(0, 1, 0) of a dead host", bus.addStream(0, 1, 0), 3);
        bus.runRounds(1);
        row("waitingPackets", bus::waitingPackets, 1, 1, 1, 1);
    }

    private void periods() {
        FloodBus bus = loaded("2");
        is("addStream(0, 0, 0)", bus.addStream(0, 0, 0), INVALID_VALUE);
        is("addStream(0, 10, 0)", bus.addStream(0, 10, 0), INVALID_VALUE);
        is("addStream(0, 1, 0)", bus.addStream(0, 1, 0), 0);
        is("addStream(0, 9, 0)", bus.addStream(0, 9, 0), 1);
        bus.runRounds(9);
        row("deliveredPackets, rounds 0 to 8", bus::deliveredPackets, 9, 1);
        bus.runRounds(1);
        row("deliveredPackets, rounds 0 to 9", bus::deliveredPackets, 10, 2);
    }

    private void starts() {
        FloodBus bus = loaded("2");
        is("addStream(0, 1, -1)", bus.addStream(0, 1, -1), INVALID_VALUE);
        is("addStream(0, 1, 100)", bus.addStream(0, 1, 100), INVALID_VALUE);
        is("addStream(0, 1, 0)", bus.addStream(0, 1, 0), 0);
        is("addStream(0, 1, 99)", bus.addStream(0, 1, 99), 1);
        for (int i = 0; i < 9; i++) {
            bus.runRounds(11);
        }
        row("deliveredPackets, rounds 0 to 98", bus::deliveredPackets, 99, 0);
        bus.runRounds(1);
        row("deliveredPackets, rounds 0 to 99", bus::deliveredPackets, 100, 1);
    }

    private void indexOfTheNewStream() {
        FloodBus bus = loaded("2");
        is("addStream, the first", bus.addStream(1, 1, 0), 0);
        is("addStream, the second", bus.addStream(1, 1, 0), 1);
        bus.removeStream(0);
        is("addStream after a removal", bus.addStream(1, 1, 0), 1);
        bus.removeStream(1);
        bus.removeStream(0);
        is("addStream when all were removed", bus.addStream(1, 1, 0), 0);
        Due.type(bus, "2");
        bus.loadNetwork();
        is("addStream in a new network", bus.addStream(1, 1, 0), 0);
    }

    private void sourceIsCheckedFirst() {
        int[] wrong = {-1, 5, 8, 256, Integer.MIN_VALUE, Integer.MAX_VALUE};
        for (int source : wrong) {
            refused("addStream(" + source + ", 1, 0)", SentenceGroup::busy, bus -> bus.addStream(source, 1, 0), INVALID_INDEX);
            refused("addStream(" + source + ", 0, 0)", SentenceGroup::busy, bus -> bus.addStream(source, 0, 0), INVALID_INDEX);
            refused("addStream(" + source + ", 1, 100)", SentenceGroup::busy, bus -> bus.addStream(source, 1, 100), INVALID_INDEX);
            refused("addStream(" + source + ", 1, 0) when full", SentenceGroup::full, bus -> bus.addStream(source, 1, 0), INVALID_INDEX);
            refused("addStream(" + source + ", 0, -1) when full", SentenceGroup::full, bus -> bus.addStream(source, 0, -1), INVALID_INDEX);
        }
        refused("addStream(0, 1, 0) without a network", FloodBus::new, bus -> bus.addStream(0, 1, 0), INVALID_INDEX);
        refused("addStream(0, 0, 100) without a network", FloodBus::new, bus -> bus.addStream(0, 0, 100), INVALID_INDEX);
    }

    private void wrongPeriodsAndStarts() {
        int[] periods = {0, 10, -1, 256 + 1, Integer.MIN_VALUE, Integer.MAX_VALUE};
        for (int period : periods) {
            refused("addStream(0, " + period + ", 0)", SentenceGroup::busy, bus -> bus.addStream(0, period, 0), INVALID_VALUE);
            refused("addStream(0, " + period + ", 100)", SentenceGroup::busy, bus -> bus.addStream(0, period, 100), INVALID_VALUE);
            refused("addStream(0, " + period + ", 0) when full", SentenceGroup::full, bus -> bus.addStream(0, period, 0), INVALID_VALUE);
        }
        int[] starts = {-1, 100, 256, Integer.MIN_VALUE, Integer.MAX_VALUE};
        for (int start : starts) {
            refused("addStream(0, 1, " + start + ")", SentenceGroup::busy, bus -> bus.addStream(0, 1, start), INVALID_VALUE);
            refused("addStream(0, 9, " + start + ") when full", SentenceGroup::full, bus -> bus.addStream(0, 9, start), INVALID_VALUE);
        }
    }

    private void sixStreams() {
        FloodBus bus = loaded("2");
        for (int i = 0; i < 6; i++) {
            is("addStream, " + i + " are there", bus.addStream(0, 1, 0), i);
        }
        is("addStream, 6 are there", bus.addStream(0, 1, 0), CAPACITY_EXCEEDED);
        bus.removeStream(5);
        is("addStream, 5 are there", bus.addStream(0, 1, 0), 5);
        is("addStream, 6 are there again", bus.addStream(0, 1, 0), CAPACITY_EXCEEDED);
        refused("addStream(0, 1, 0) when full", SentenceGroup::full, full -> full.addStream(0, 1, 0), CAPACITY_EXCEEDED);
        refused("addStream(4, 9, 99) when full", SentenceGroup::full, full -> full.addStream(4, 9, 99), CAPACITY_EXCEEDED);
    }

    /** Stream i has generated i + 1 packets, none of them served; then one of each is delivered. */
    private static FloodBus sixDifferent() {
        FloodBus bus = loaded("2");
        bus.setSlotLimit(0);
        for (int i = 0; i < 6; i++) {
            bus.addStream(0, 1, 5 - i);
        }
        bus.runRounds(6);
        bus.setSlotLimit(6);
        bus.runRounds(1);
        return bus;
    }

    private void packetsAndCountersGo() {
        FloodBus bus = sixDifferent();
        row("waitingPackets", bus::waitingPackets, 1, 2, 3, 3, 3, 3, INVALID_INDEX);
        row("deliveredPackets", bus::deliveredPackets, 1, 1, 1, 1, 1, 1, INVALID_INDEX);
        row("lostPackets", bus::lostPackets, 0, 0, 0, 1, 2, 3, INVALID_INDEX);
        bus.removeStream(5);
        row("waitingPackets without the last", bus::waitingPackets, 1, 2, 3, 3, 3, INVALID_INDEX);
        row("deliveredPackets without the last", bus::deliveredPackets, 1, 1, 1, 1, 1, INVALID_INDEX);
        row("lostPackets without the last", bus::lostPackets, 0, 0, 0, 1, 2, INVALID_INDEX);
        is("runRounds(1): its packets are not served any more", bus.runRounds(1), 5);
        FloodBus only = loaded("2");
        only.addStream(0, 1, 0);
        only.removeStream(0);
        is("runRounds(1) without a stream", only.runRounds(1), 0);
    }

    private void laterStreamsMove() {
        int[] waiting = {1, 2, 3, 3, 3, 3};
        int[] lost = {0, 0, 0, 1, 2, 3};
        for (int removed = 0; removed < 6; removed++) {
            FloodBus bus = sixDifferent();
            bus.removeStream(removed);
            for (int stream = 0; stream < 5; stream++) {
                int was = stream < removed ? stream : stream + 1;
                is("waitingPackets(" + stream + ") without " + removed, bus.waitingPackets(stream), waiting[was]);
                is("lostPackets(" + stream + ") without " + removed, bus.lostPackets(stream), lost[was]);
            }
            is("waitingPackets(5) without " + removed, bus.waitingPackets(5), INVALID_INDEX);
        }
        // What a stream is moves with it: source, period and start.
        FloodBus moved = loaded("3;015;125");
        moved.addStream(0, 1, 0);
        moved.addStream(2, 2, 1);
        moved.removeStream(0);
        is("runRounds(1), round 0", moved.runRounds(1), 0);
        is("runRounds(1), round 1", moved.runRounds(1), 1);
        is("packetAt(0)", moved.packetAt(0), 2);
        is("runRounds(2), rounds 2 and 3", moved.runRounds(2), 1);
    }

    private void scheduleBecomesEmpty() {
        for (int removed = 0; removed < 3; removed++) {
            FloodBus bus = loaded("2");
            bus.addStream(0, 1, 0);
            bus.addStream(0, 1, 0);
            bus.addStream(0, 1, 50);
            bus.runRounds(1);
            row("scheduledStream", bus::scheduledStream, 0, 1, -1);
            is("scheduleBits()", bus.scheduleBits(), 14);
            bus.removeStream(removed);
            row("scheduledStream after removeStream(" + removed + ")", bus::scheduledStream, -1, -1, -1);
            is("scheduleBits() after removeStream(" + removed + ")", bus.scheduleBits(), 8);
            bus.runRounds(1);
            is("scheduledStream(0) of the next round", bus.scheduledStream(0), 0);
        }
        FloodBus refused = loaded("2");
        refused.addStream(0, 1, 0);
        refused.runRounds(1);
        refused.removeStream(1);
        row("scheduledStream after a refused removeStream", refused::scheduledStream, 0, -1);
    }

    private void removesEachIndex() {
        for (int stream = 0; stream < 6; stream++) {
            is("removeStream(" + stream + ")", full().removeStream(stream), 5);
        }
        is("removeStream(6)", full().removeStream(6), INVALID_INDEX);
        is("removeStream(-1)", full().removeStream(-1), INVALID_INDEX);
    }

    private void numberOfStreamsLeft() {
        FloodBus bus = full();
        for (int left = 5; left >= 0; left--) {
            is("removeStream(0)", bus.removeStream(0), left);
        }
        is("removeStream(0) of none", bus.removeStream(0), INVALID_INDEX);
    }

    private void packetsThatWait() {
        FloodBus bus = loaded("2");
        bus.setSlotLimit(1);
        bus.addStream(0, 1, 0);
        bus.addStream(0, 1, 0);
        bus.runRounds(1);
        row("waitingPackets: a served one waits no more", bus::waitingPackets, 0, 1);
        bus.runRounds(2);
        row("waitingPackets after three rounds", bus::waitingPackets, 1, 2);
        bus.setAlive(0, false);
        bus.runRounds(1);
        row("waitingPackets under a dead host", bus::waitingPackets, 2, 3);
    }

    private void fromNoneToFour() {
        FloodBus bus = loaded("2");
        bus.setSlotLimit(0);
        for (int i = 0; i < 6; i++) {
            bus.addStream(0, 1, 5 - i);
        }
        bus.addStream(0, 1, 0);
        row("waitingPackets of new streams", bus::waitingPackets, 0, 0, 0, 0, 0, 0, INVALID_INDEX);
        bus.runRounds(5);
        row("waitingPackets: none, one .. four, and no fifth", bus::waitingPackets, 0, 1, 2, 3, 4, 4, INVALID_INDEX);
        bus.setSlotLimit(6);
        bus.runRounds(1);
        row("waitingPackets when one of each was served", bus::waitingPackets, 0, 1, 2, 3, 3, 3, INVALID_INDEX);
    }

    private void packetsDelivered() {
        FloodBus bus = loaded("3;015");
        for (int node = 0; node < 3; node++) {
            bus.addStream(node, 1, 0);
        }
        row("deliveredPackets at first", bus::deliveredPackets, 0, 0, 0);
        bus.runRounds(4);
        row("deliveredPackets: node 2 is never heard", bus::deliveredPackets, 4, 4, 0);
        bus.setAlive(1, false);
        bus.runRounds(1);
        row("deliveredPackets with node 1 dead", bus::deliveredPackets, 5, 4, 0);
    }

    private void manyPacketsDelivered() {
        FloodBus bus = loaded("2");
        bus.addStream(0, 1, 0);
        for (int i = 0; i < 400; i++) {
            bus.runRounds(20);
        }
        is("deliveredPackets(0) of 8000 rounds", bus.deliveredPackets(0), 8000);
        is("lostPackets(0)", bus.lostPackets(0), 0);
    }

    private void lostOrDropped() {
        FloodBus lost = loaded("2");
        lost.addStream(1, 1, 0);
        lost.runRounds(3);
        is("lostPackets(0): the source missed each schedule", lost.lostPackets(0), 3);
        lost.setAlive(1, false);
        lost.runRounds(2);
        is("lostPackets(0): the source is dead", lost.lostPackets(0), 5);
        FloodBus dropped = loaded("2");
        dropped.setSlotLimit(0);
        dropped.addStream(0, 1, 0);
        dropped.runRounds(4);
        is("lostPackets(0), four wait", dropped.lostPackets(0), 0);
        dropped.runRounds(3);
        is("lostPackets(0), three were dropped", dropped.lostPackets(0), 3);
    }

    private void lostAndDroppedTogether() {
        FloodBus bus = loaded("2");
        bus.setSlotLimit(0);
        bus.addStream(1, 1, 0);
        bus.runRounds(6);
        is("lostPackets(0), two dropped", bus.lostPackets(0), 2);
        bus.setSlotLimit(1);
        bus.runRounds(1);
        is("lostPackets(0), one more dropped and one lost", bus.lostPackets(0), 4);
        bus.runRounds(1);
        is("lostPackets(0), one more lost", bus.lostPackets(0), 5);
        is("deliveredPackets(0)", bus.deliveredPackets(0), 0);
    }
}
