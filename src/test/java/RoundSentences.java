/** The paragraphs "Round", "Schedule" and "Missed schedules", and promises 20 to 24 and 26, sentence by sentence. */
final class RoundSentences extends SentenceGroup {
    RoundSentences(Sentences doc) {
        super(doc);
    }

    @Override
    void ask() {
        inParagraph("Round");
        holds("One round takes these steps in this order.", this::orderOfSteps);
        holds("(1) All streams generate their packets for this round, in order of stream index.", this::allStreamsGenerate);
        holds("(2) If the host is dead, then the schedule is empty, and every alive node misses the schedule.", this::deadHost);
        holds("If the host is alive, it builds the schedule and floods it as the only initiator.", this::hostFloodsTheSchedule);
        holds("Every alive node that receives the flood has received the schedule; the host always counts as having received it.",
            this::whoReceivesTheSchedule);
        holds("Every other alive node misses the schedule.", this::whoMissesTheSchedule);
        holds("(3) For each entry of the schedule, in order, the oldest waiting packet of that stream is removed.", this::oldestPacketIsRemoved);
        holds("If the source node is alive and has received the schedule in this round, then the source floods the packet as the only initiator, "
            + "and the packet is delivered if the host holds it after that flood.", this::deliveredIfTheHostHoldsIt);
        holds("In all other cases the packet is lost; if the source is dead or has missed the schedule, then no flood takes place.",
            this::lostInAllOtherCases);
        holds("(If the source is the host, the packet is delivered without further condition, and the flood still takes place.)",
            this::packetsOfTheHost);
        holds("(4) If the host is dead, a takeover may happen: among the alive nodes whose number of missed schedules, counted with the schedule "
            + "of this round, is at least the takeover limit, the one with the lowest index becomes host.", this::takeover);
        holds("(5) The round number increases by 1.", this::roundNumberIncreases);
        inParagraph("Schedule");
        holds("The schedule has at most as many entries as the slot limit says.", this::asManyEntriesAsSlots);
        holds("Each stream with at least one waiting packet is a candidate, and each candidate appears at most once.", this::candidates);
        holds("Candidates are ordered by the round in which their oldest waiting packet was generated, earliest first; candidates with equal "
            + "rounds are ordered by stream index.", this::orderOfCandidates);
        holds("The first candidates are taken up to the slot limit.", this::firstCandidatesAreTaken);
        holds("The encoded size of a schedule is 8 bits plus the smaller of two sizes: the list size is 3 bits for each entry; the bitmap size is "
            + "8 bits, and it is available only if no two entries have the same source node.", this::encodedSize);
        inParagraph("Missed schedules");
        holds("Each node counts the schedules that it has missed in a row.", this::countsInARow);
        holds("The count of a node returns to 0 when the node receives a schedule, when the node becomes host, and when the node is set dead or "
            + "alive by a call that changes its state.", this::countReturnsToZero);
        holds("The count of a dead node stays 0.", this::countOfADeadNode);
        inPromise(20);
        holds("Runs rounds one after another.", this::oneAfterAnother);
        holds("`count`: how many rounds, 1 to 20", this::oneToTwentyRounds);
        holds("Returns how many packets were delivered in these rounds", this::deliveredInTheseRounds);
        holds("INVALID_VALUE if count is out of range (checked first)", this::countIsCheckedFirst);
        holds("INVALID_STATE if there is no network", this::roundsWithoutANetwork);
        holds("CAPACITY_EXCEEDED if the round number would exceed 9999.", this::roundNumberStaysUpTo9999);
        inPromise(21);
        holds("Tells an entry of the schedule of the latest round.", this::entryOfTheLatestRound);
        holds("`entry`: index of the entry, from 0", this::entriesFromZero);
        holds("Returns the stream index", this::streamOfAnEntry);
        holds("NONE if the schedule has no such entry (also if entry is negative).", this::noSuchEntry);
        inPromise(22);
        holds("Tells the encoded size of the schedule of the latest round.", this::sizeOfTheLatestRound);
        holds("Returns the size in bits (8 for an empty schedule, also before the first round).", this::sizeOfAnEmptySchedule);
        inPromise(23);
        holds("Tells which node is host.", this::whichNodeIsHost);
        holds("Returns the node index", this::everyNodeCanBeHost);
        holds("NONE if there is no network.", this::noHostWithoutANetwork);
        inPromise(24);
        holds("Tells how many schedules a node has missed in a row.", this::toldCounts);
        holds("`node`: node index", this::nodesThatCount);
        holds("Returns the count", this::greatCounts);
        holds("INVALID_INDEX if node is not a valid index.", this::missedSchedulesOfNoNode);
        inPromise(26);
        holds("Tells the number of the next round.", this::numberOfTheNextRound);
        holds("Returns the round number", this::fromZeroTo9999);
        holds("0 if there is no network.", this::roundNumberWithoutANetwork);
    }

    private static FloodBus withStreams(String network, int... sources) {
        FloodBus bus = loaded(network);
        for (int source : sources) {
            bus.addStream(source, 1, 0);
        }
        return bus;
    }

    private void orderOfSteps() {
        is("runRounds(1): generated, scheduled and delivered in one round", withStreams("2;015", 1).runRounds(1), 1);
        FloodBus full = withStreams("2", 0);
        full.setSlotLimit(0);
        full.runRounds(4);
        full.setSlotLimit(1);
        full.runRounds(1);
        is("lostPackets(0): step 1 drops before step 3 makes room", full.lostPackets(0), 1);
        FloodBus dead = withStreams("2;015", 1);
        dead.setTakeoverLimit(1);
        dead.setAlive(0, false);
        is("runRounds(1): the takeover is behind the deliveries", dead.runRounds(1), 0);
        is("host()", dead.host(), 1);
        is("scheduleBits() of that round", dead.scheduleBits(), 8);
        is("waitingPackets(0)", dead.waitingPackets(0), 1);
        is("runRounds(1) of the new host", dead.runRounds(1), 1);
    }

    private void allStreamsGenerate() {
        FloodBus bus = withStreams("2", 0, 1, 0, 1, 0, 1);
        bus.setSlotLimit(0);
        for (int round = 1; round <= 4; round++) {
            bus.runRounds(1);
            row("waitingPackets", bus::waitingPackets, round, round, round, round, round, round);
        }
        bus.setSlotLimit(6);
        bus.runRounds(1);
        row("scheduledStream", bus::scheduledStream, 0, 1, 2, 3, 4, 5);
    }

    private void deadHost() {
        FloodBus bus = withStreams("4;015;125;235", 0, 1);
        bus.setTakeoverLimit(9);
        bus.runRounds(1);
        row("scheduledStream before", bus::scheduledStream, 0, 1, -1);
        bus.flood(8);
        bus.setAlive(0, false);
        bus.setAlive(2, false);
        is("runRounds(1)", bus.runRounds(1), 0);
        row("scheduledStream", bus::scheduledStream, -1, -1, -1);
        is("scheduleBits()", bus.scheduleBits(), 8);
        row("missedSchedules of alive nodes 1 and 3", bus::missedSchedules, 0, 1, 0, 1);
        row("waitingPackets", bus::waitingPackets, 1, 1);
        row("lostPackets", bus::lostPackets, 0, 0);
        row("packetAt: no flood took place", bus::packetAt, 3, 3, 3, 3);
        is("runRounds(3)", bus.runRounds(3), 0);
        row("missedSchedules", bus::missedSchedules, 0, 4, 0, 4);
        row("waitingPackets", bus::waitingPackets, 4, 4);
    }

    private void hostFloodsTheSchedule() {
        FloodBus bus = loaded("4;015;125;235");
        bus.runRounds(1);
        row("packetAt, an empty schedule", bus::packetAt, 0, 0, 0, 0);
        row("hopCount", bus::hopCount, 0, 1, 2, 3);
        row("transmissions", bus::transmissions, 2, 2, 2, 2);
        bus.setAlive(0, false);
        bus.runRounds(2);
        bus.setAlive(0, true);
        bus.runRounds(1);
        row("packetAt, the schedule of node 1", bus::packetAt, 1, 1, 1, 1);
        row("hopCount", bus::hopCount, 1, 0, 1, 2);
    }

    private void whoReceivesTheSchedule() {
        FloodBus bus = withStreams("4;015;125", 2);
        is("runRounds(1): node 2 has the schedule", bus.runRounds(1), 1);
        row("missedSchedules", bus::missedSchedules, 0, 0, 0, 1);
        FloodBus lone = loaded("2");
        lone.runRounds(5);
        is("missedSchedules(0) of a host without links", lone.missedSchedules(0), 0);
        lone.setAlive(1, false);
        lone.runRounds(5);
        is("missedSchedules(0) of a host alone", lone.missedSchedules(0), 0);
    }

    private void whoMissesTheSchedule() {
        FloodBus bus = loaded("5;015;1252;235");
        bus.runRounds(1);
        row("missedSchedules: 2 by loss, 3 behind it, 4 without a link", bus::missedSchedules, 0, 0, 1, 1, 1);
        bus.setAlive(3, false);
        bus.runRounds(1);
        row("missedSchedules: the dead one does not miss", bus::missedSchedules, 0, 0, 2, 0, 2);
        // Node 2 hears the packet of node 1 in slot 0 of its flood, but that is not the schedule.
        FloodBus data = withStreams("3;015;1252", 1, 2);
        is("runRounds(1)", data.runRounds(1), 1);
        row("packetAt", data::packetAt, 1, 1, 1);
        row("missedSchedules", data::missedSchedules, 0, 0, 1);
        row("lostPackets", data::lostPackets, 0, 1);
    }

    private void oldestPacketIsRemoved() {
        FloodBus bus = withStreams("3;015;125", 2, 1);
        bus.setSlotLimit(0);
        bus.runRounds(3);
        bus.setSlotLimit(2);
        is("runRounds(1)", bus.runRounds(1), 2);
        row("waitingPackets: one of each four", bus::waitingPackets, 3, 3);
        row("packetAt: the last entry's flood is the latest", bus::packetAt, 1, 1, 1);
        FloodBus lost = withStreams("2", 1);
        lost.setSlotLimit(0);
        lost.runRounds(3);
        lost.setSlotLimit(1);
        lost.runRounds(1);
        is("waitingPackets(0): a lost packet is removed, too", lost.waitingPackets(0), 3);
        // Stream 0 has rounds 0 and 2, stream 1 round 1; when the one of round 0 is gone, stream 1 comes first.
        FloodBus oldest = loaded("2");
        oldest.setSlotLimit(0);
        oldest.addStream(0, 2, 0);
        oldest.addStream(0, 9, 1);
        oldest.runRounds(2);
        oldest.setSlotLimit(1);
        oldest.runRounds(1);
        is("scheduledStream(0), round 2", oldest.scheduledStream(0), 0);
        oldest.runRounds(1);
        is("scheduledStream(0), round 3", oldest.scheduledStream(0), 1);
    }

    private void deliveredIfTheHostHoldsIt() {
        FloodBus bus = withStreams("4;015;125;235", 3);
        bus.setTransmissionLimit(1);
        is("runRounds(1)", bus.runRounds(1), 1);
        row("packetAt", bus::packetAt, 3, 3, 3, 3);
        row("hopCount", bus::hopCount, 3, 2, 1, 0);
        row("transmissions: a schedule and a packet", bus::transmissions, 2, 2, 2, 2);
        // Link 0-1 carries the schedule in slot 0, but loses the packet of node 3 in slot 2.
        FloodBus lossy = withStreams("4;0153;125;235", 3);
        lossy.setTransmissionLimit(1);
        is("runRounds(1) when the host does not hold it", lossy.runRounds(1), 0);
        is("missedSchedules(3)", lossy.missedSchedules(3), 0);
        is("lostPackets(0)", lossy.lostPackets(0), 1);
        row("packetAt", lossy::packetAt, -1, 3, 3, 3);
        row("transmissions: the flood took place", lossy::transmissions, 1, 2, 2, 2);
        // "In this round": node 2 had the schedule of round 0, not that of round 1.
        FloodBus once = loaded("3;015;125");
        once.runRounds(1);
        once.setAlive(1, false);
        once.addStream(2, 1, 0);
        is("runRounds(1) when node 2 is cut off", once.runRounds(1), 0);
        is("lostPackets(0)", once.lostPackets(0), 1);
    }

    private void lostInAllOtherCases() {
        FloodBus dead = withStreams("3;015;125", 2);
        dead.setAlive(2, false);
        is("runRounds(1), the source is dead", dead.runRounds(1), 0);
        is("lostPackets(0)", dead.lostPackets(0), 1);
        row("packetAt: the schedule's flood is the latest", dead::packetAt, 0, 0, -1);
        row("transmissions: the schedule alone", dead::transmissions, 2, 2, 0);
        FloodBus missed = withStreams("3;125", 2, 1);
        is("runRounds(1), the sources missed the schedule", missed.runRounds(1), 0);
        row("lostPackets", missed::lostPackets, 1, 1);
        row("packetAt", missed::packetAt, 0, -1, -1);
        row("transmissions: the schedule alone", missed::transmissions, 2, 0, 0);
        FloodBus mixed = withStreams("3;015", 2, 1);
        is("runRounds(1), one is lost and one delivered", mixed.runRounds(1), 1);
        row("lostPackets", mixed::lostPackets, 1, 0);
        row("deliveredPackets", mixed::deliveredPackets, 0, 1);
    }

    private void packetsOfTheHost() {
        FloodBus bus = withStreams("2", 0);
        is("runRounds(3) of a host without links", bus.runRounds(3), 3);
        is("transmissions(0): three schedules and three packets", bus.transmissions(0), 12);
        FloodBus linked = withStreams("2;015", 0);
        is("runRounds(1)", linked.runRounds(1), 1);
        row("transmissions", linked::transmissions, 4, 4);
        row("packetAt", linked::packetAt, 0, 0);
        FloodBus next = withStreams("2;015", 0, 1);
        next.setTakeoverLimit(1);
        next.setAlive(0, false);
        next.runRounds(1);
        is("runRounds(1): node 1 is host, node 0 is dead", next.runRounds(1), 1);
        row("deliveredPackets", next::deliveredPackets, 0, 1);
        row("lostPackets", next::lostPackets, 1, 0);
    }

    private void takeover() {
        FloodBus below = loaded("3;015;125");
        below.setTakeoverLimit(3);
        below.setAlive(0, false);
        below.runRounds(2);
        is("host(), two missed of three", below.host(), 0);
        below.runRounds(1);
        is("host(), three missed, counted with this round", below.host(), 1);
        FloodBus above = loaded("3;015");
        above.runRounds(5);
        is("host() is alive, so there is no takeover", above.host(), 0);
        above.setAlive(0, false);
        above.runRounds(1);
        is("host(): node 1 has missed one, node 2 six", above.host(), 2);
        FloodBus lowest = loaded("4");
        lowest.runRounds(3);
        lowest.setAlive(0, false);
        lowest.setAlive(1, false);
        lowest.runRounds(1);
        is("host(): the lowest that is alive", lowest.host(), 2);
        row("missedSchedules", lowest::missedSchedules, 0, 0, 0, 4);
        FloodBus none = loaded("2");
        none.setTakeoverLimit(1);
        none.setAlive(0, false);
        none.setAlive(1, false);
        none.runRounds(20);
        is("host() when nobody is alive", none.host(), 0);
        FloodBus back = loaded("2");
        back.setTakeoverLimit(1);
        back.runRounds(3);
        back.setAlive(0, false);
        back.setAlive(0, true);
        back.runRounds(3);
        is("host() that was dead only between rounds", back.host(), 0);
        FloodBus twice = loaded("3");
        twice.setTakeoverLimit(1);
        twice.setAlive(0, false);
        twice.runRounds(1);
        twice.setAlive(0, true);
        twice.setAlive(1, false);
        twice.runRounds(1);
        is("host(): node 0 may take over again", twice.host(), 0);
    }

    private void roundNumberIncreases() {
        FloodBus bus = loaded("2");
        for (int round = 0; round < 30; round++) {
            is("roundNumber()", bus.roundNumber(), round);
            bus.setAlive(0, round % 3 != 0);
            bus.runRounds(1);
        }
        bus.runRounds(20);
        is("roundNumber()", bus.roundNumber(), 50);
    }

    private void asManyEntriesAsSlots() {
        for (int streams = 0; streams <= 6; streams++) {
            for (int slots = 0; slots <= 6; slots++) {
                FloodBus bus = withStreams("2", new int[streams]);
                bus.setSlotLimit(slots);
                int entries = Math.min(streams, slots);
                is("runRounds(1) of " + streams + " streams, limit " + slots, bus.runRounds(1), entries);
                for (int entry = 0; entry <= 6; entry++) {
                    is("scheduledStream(" + entry + ")", bus.scheduledStream(entry), entry < entries ? entry : NONE);
                }
            }
        }
    }

    private void candidates() {
        FloodBus bus = loaded("2");
        bus.setSlotLimit(0);
        bus.addStream(0, 1, 0);
        bus.addStream(0, 9, 50);
        bus.addStream(0, 9, 3);
        bus.runRounds(3);
        bus.setSlotLimit(6);
        is("runRounds(1): four packets wait in stream 0, none in 1, one in 2", bus.runRounds(1), 2);
        row("scheduledStream", bus::scheduledStream, 0, 2, -1);
        row("waitingPackets", bus::waitingPackets, 3, 0, 0);
        is("runRounds(1)", bus.runRounds(1), 1);
        row("scheduledStream", bus::scheduledStream, 0, -1);
    }

    private void orderOfCandidates() {
        FloodBus bus = loaded("2");
        bus.setSlotLimit(0);
        int[] starts = {4, 2, 0, 2, 4, 0};
        for (int start : starts) {
            bus.addStream(0, 9, start);
        }
        bus.runRounds(4);
        bus.setSlotLimit(6);
        bus.runRounds(1);
        row("scheduledStream", bus::scheduledStream, 2, 5, 1, 3, 0, 4, -1);
        FloodBus equal = withStreams("2", 0, 0, 0, 0, 0, 0);
        equal.setSlotLimit(6);
        equal.runRounds(1);
        row("scheduledStream of equal rounds", equal::scheduledStream, 0, 1, 2, 3, 4, 5, -1);
    }

    private void firstCandidatesAreTaken() {
        FloodBus bus = loaded("2");
        bus.setSlotLimit(0);
        int[] starts = {2, 1, 0};
        for (int start : starts) {
            bus.addStream(0, 9, start);
        }
        bus.runRounds(2);
        bus.setSlotLimit(2);
        is("runRounds(1)", bus.runRounds(1), 2);
        row("scheduledStream: the youngest is left", bus::scheduledStream, 2, 1, -1);
        row("waitingPackets", bus::waitingPackets, 1, 0, 0);
        is("runRounds(1)", bus.runRounds(1), 1);
        row("scheduledStream", bus::scheduledStream, 0, -1);
    }

    private void encodedSize() {
        bits("no entry", 8);
        bits("one entry: 3 bits", 11, 5);
        bits("two entries: 6 bits", 14, 5, 4);
        bits("two entries of one source: 6 bits", 14, 5, 5);
        bits("three entries: 9 bits are more than 8", 16, 5, 4, 3);
        bits("three entries, the first two of one source: 9 bits", 17, 5, 5, 3);
        bits("three entries, the last two of one source: 9 bits", 17, 5, 3, 3);
        bits("three entries, the outer two of one source: 9 bits", 17, 5, 3, 5);
        bits("four entries", 16, 0, 1, 2, 3);
        bits("four entries, two of one source", 20, 0, 1, 2, 0);
        bits("five entries", 16, 0, 1, 2, 3, 7);
        bits("five entries, two of one source", 23, 0, 1, 2, 3, 3);
        bits("six entries", 16, 7, 6, 5, 4, 3, 2);
        bits("six entries, two of one source", 26, 7, 6, 5, 4, 3, 7);
        bits("six entries of one source", 26, 0, 0, 0, 0, 0, 0);
        // Only entries count, not the streams that are left out.
        FloodBus bus = withStreams("8", 0, 1, 2, 0);
        bus.runRounds(1);
        is("scheduleBits(): the fourth stream is no entry", bus.scheduleBits(), 16);
    }

    private void bits(String what, int due, int... sources) {
        FloodBus bus = withStreams("8", sources);
        bus.setSlotLimit(6);
        bus.runRounds(1);
        is("scheduleBits(), " + what, bus.scheduleBits(), due);
    }

    private void countsInARow() {
        FloodBus bus = loaded("3;015;125");
        bus.setTakeoverLimit(9);
        row("missedSchedules at first", bus::missedSchedules, 0, 0, 0);
        bus.setAlive(1, false);
        for (int missed = 1; missed <= 3; missed++) {
            bus.runRounds(1);
            row("missedSchedules", bus::missedSchedules, 0, 0, missed);
        }
        bus.setAlive(1, true);
        bus.runRounds(1);
        row("missedSchedules: the row has ended", bus::missedSchedules, 0, 0, 0);
        bus.setAlive(0, false);
        bus.runRounds(2);
        row("missedSchedules under a dead host", bus::missedSchedules, 0, 2, 2);
    }

    private void countReturnsToZero() {
        FloodBus receives = loaded("3;015");
        receives.setTakeoverLimit(9);
        receives.setAlive(0, false);
        receives.runRounds(4);
        row("missedSchedules", receives::missedSchedules, 0, 4, 4);
        receives.setAlive(0, true);
        row("missedSchedules before the schedule comes", receives::missedSchedules, 0, 4, 4);
        receives.runRounds(1);
        row("missedSchedules: node 1 receives", receives::missedSchedules, 0, 0, 5);
        receives.setAlive(2, true);
        is("missedSchedules(2) after a call that changes nothing", receives.missedSchedules(2), 5);
        receives.setAlive(2, false);
        is("missedSchedules(2) set dead", receives.missedSchedules(2), 0);
        receives.setAlive(2, false);
        receives.setAlive(2, true);
        is("missedSchedules(2) set alive", receives.missedSchedules(2), 0);
        receives.runRounds(1);
        is("missedSchedules(2) counts from 0 on", receives.missedSchedules(2), 1);
        FloodBus host = loaded("3");
        host.setAlive(0, false);
        host.runRounds(2);
        is("host()", host.host(), 1);
        row("missedSchedules: node 1 became host", host::missedSchedules, 0, 0, 2);
        host.setAlive(1, false);
        host.setAlive(1, true);
        is("host() set dead and alive", host.host(), 1);
        row("missedSchedules of the others stay", host::missedSchedules, 0, 0, 2);
    }

    private void countOfADeadNode() {
        FloodBus bus = loaded("3;015");
        bus.setAlive(1, false);
        bus.setAlive(2, false);
        bus.runRounds(20);
        row("missedSchedules under an alive host", bus::missedSchedules, 0, 0, 0);
        bus.setAlive(0, false);
        bus.runRounds(20);
        row("missedSchedules under a dead host", bus::missedSchedules, 0, 0, 0);
        bus.setAlive(2, true);
        bus.runRounds(1);
        row("missedSchedules, one is alive again", bus::missedSchedules, 0, 0, 1);
    }

    private void oneAfterAnother() {
        int[] counts = {1, 2, 7, 20};
        for (int count : counts) {
            FloodBus together = busy();
            FloodBus single = busy();
            int sum = 0;
            for (int i = 0; i < count; i++) {
                sum += single.runRounds(1);
            }
            is("runRounds(" + count + ")", together.runRounds(count), sum);
            same("runRounds(" + count + ") and as many single ones", together, single);
        }
    }

    private void oneToTwentyRounds() {
        for (int count = 1; count <= 20; count++) {
            FloodBus bus = loaded("2");
            bus.runRounds(count);
            is("roundNumber() after runRounds(" + count + ")", bus.roundNumber(), count);
        }
        is("runRounds(0)", loaded("2").runRounds(0), INVALID_VALUE);
        is("runRounds(21)", loaded("2").runRounds(21), INVALID_VALUE);
    }

    private void deliveredInTheseRounds() {
        FloodBus bus = withStreams("3;015", 0, 1, 2);
        is("runRounds(20): two of three are delivered", bus.runRounds(20), 40);
        is("runRounds(1): only of this round", bus.runRounds(1), 2);
        bus.setSlotLimit(0);
        is("runRounds(20) with slot limit 0", bus.runRounds(20), 0);
        is("runRounds(20) without streams", loaded("2;015").runRounds(20), 0);
        bus.setSlotLimit(6);
        bus.setAlive(0, false);
        is("runRounds(1) under a dead host", bus.runRounds(1), 0);
    }

    private void countIsCheckedFirst() {
        int[] wrong = {0, 21, -1, 22, 256 + 1, Integer.MIN_VALUE, Integer.MAX_VALUE};
        for (int count : wrong) {
            refused("runRounds(" + count + ") without a network", FloodBus::new, bus -> bus.runRounds(count), INVALID_VALUE);
            refused("runRounds(" + count + ")", SentenceGroup::busy, bus -> bus.runRounds(count), INVALID_VALUE);
        }
        FloodBus late = late();
        late.runRounds(19);
        is("runRounds(21) in round 9999", late.runRounds(21), INVALID_VALUE);
        is("runRounds(0) in round 9999", late.runRounds(0), INVALID_VALUE);
        is("runRounds(MAX) in round 9999", late.runRounds(Integer.MAX_VALUE), INVALID_VALUE);
    }

    private void roundsWithoutANetwork() {
        int[] counts = {1, 2, 20};
        for (int count : counts) {
            refused("runRounds(" + count + ")", FloodBus::new, bus -> bus.runRounds(count), INVALID_STATE);
            refused("runRounds(" + count + ") with a description", () -> Due.typed("2"), bus -> bus.runRounds(count), INVALID_STATE);
        }
    }

    /** Each bus has seen 501 calls at round 9980, so few more are left. */
    private void roundNumberStaysUpTo9999() {
        FloodBus bus = late();
        is("roundNumber()", bus.roundNumber(), 9980);
        long before = bus.digest();
        is("runRounds(20) would end at 10000", bus.runRounds(20), CAPACITY_EXCEEDED);
        is("digest(): none of the rounds was run", bus.digest(), before);
        is("runRounds(19) ends at 9999", bus.runRounds(19), 0);
        is("roundNumber()", bus.roundNumber(), 9999);
        is("runRounds(1) would end at 10000", bus.runRounds(1), CAPACITY_EXCEEDED);
        is("roundNumber()", bus.roundNumber(), 9999);
        FloodBus steps = late();
        steps.runRounds(18);
        is("runRounds(2) would end at 10000", steps.runRounds(2), CAPACITY_EXCEEDED);
        is("runRounds(1) ends at 9999", steps.runRounds(1), 0);
        is("runRounds(20) would end at 10019", steps.runRounds(20), CAPACITY_EXCEEDED);
        Due.type(steps, "2");
        steps.loadNetwork();
        is("runRounds(20) of a new network", steps.runRounds(20), 0);
        FloodBus dead = late();
        dead.runRounds(19);
        dead.setAlive(0, false);
        is("runRounds(1) under a dead host would end at 10000", dead.runRounds(1), CAPACITY_EXCEEDED);
        is("missedSchedules(1)", dead.missedSchedules(1), 9999);
    }

    private void entryOfTheLatestRound() {
        FloodBus bus = loaded("2");
        bus.addStream(0, 9, 1);
        bus.addStream(0, 9, 0);
        bus.runRounds(1);
        row("scheduledStream, round 0", bus::scheduledStream, 1, -1);
        bus.runRounds(1);
        row("scheduledStream, round 1", bus::scheduledStream, 0, -1);
        bus.flood(1);
        bus.setSlotLimit(0);
        bus.addStream(0, 1, 0);
        bus.runRounds(21);
        row("scheduledStream: no round since", bus::scheduledStream, 0, -1);
        bus.runRounds(1);
        row("scheduledStream, round 2", bus::scheduledStream, -1);
    }

    private void entriesFromZero() {
        FloodBus bus = withStreams("2", 0, 0, 0, 0, 0, 0);
        bus.setSlotLimit(6);
        bus.runRounds(1);
        for (int entry = 0; entry < 6; entry++) {
            is("scheduledStream(" + entry + ")", bus.scheduledStream(entry), entry);
        }
        is("scheduledStream(-1)", bus.scheduledStream(-1), NONE);
        is("scheduledStream(6)", bus.scheduledStream(6), NONE);
    }

    private void streamOfAnEntry() {
        FloodBus bus = loaded("3;015");
        bus.addStream(2, 9, 50);
        bus.addStream(2, 9, 50);
        bus.addStream(1, 1, 0);
        bus.runRounds(1);
        is("scheduledStream(0): the stream, not its source or its place", bus.scheduledStream(0), 2);
    }

    private void noSuchEntry() {
        int[] never = {-1, -2, 6, 7, 256, Integer.MIN_VALUE, Integer.MAX_VALUE};
        for (int entry : never) {
            is("scheduledStream(" + entry + ") without a network", new FloodBus().scheduledStream(entry), NONE);
            is("scheduledStream(" + entry + ") before a round", loaded("2").scheduledStream(entry), NONE);
            is("scheduledStream(" + entry + ") of some", busy().scheduledStream(entry), NONE);
            FloodBus six = withStreams("2", 0, 0, 0, 0, 0, 0);
            six.setSlotLimit(6);
            six.runRounds(1);
            is("scheduledStream(" + entry + ") of six", six.scheduledStream(entry), NONE);
        }
        is("scheduledStream(0) without a network", new FloodBus().scheduledStream(0), NONE);
        FloodBus bus = withStreams("2", 0, 0);
        is("scheduledStream(0) before the first round", bus.scheduledStream(0), NONE);
        bus.runRounds(1);
        row("scheduledStream", bus::scheduledStream, 0, 1, -1, -1, -1, -1);
        bus.setSlotLimit(1);
        bus.runRounds(1);
        row("scheduledStream of a shorter schedule", bus::scheduledStream, 0, -1, -1);
        bus.setSlotLimit(0);
        bus.runRounds(1);
        row("scheduledStream of an empty schedule", bus::scheduledStream, -1, -1);
    }

    private void sizeOfTheLatestRound() {
        FloodBus bus = withStreams("2", 0, 0, 0, 0);
        bus.setSlotLimit(4);
        bus.runRounds(1);
        is("scheduleBits() of four entries", bus.scheduleBits(), 20);
        bus.setSlotLimit(1);
        is("scheduleBits() after another limit", bus.scheduleBits(), 20);
        bus.addStream(0, 1, 0);
        is("scheduleBits() after another stream", bus.scheduleBits(), 20);
        bus.runRounds(1);
        is("scheduleBits() of one entry", bus.scheduleBits(), 11);
        bus.runRounds(21);
        is("scheduleBits() after a refused call", bus.scheduleBits(), 11);
    }

    private void sizeOfAnEmptySchedule() {
        is("scheduleBits() without a network", new FloodBus().scheduleBits(), 8);
        is("scheduleBits() before the first round", withStreams("2", 0).scheduleBits(), 8);
        FloodBus bus = withStreams("2", 0);
        bus.runRounds(1);
        bus.setSlotLimit(0);
        bus.runRounds(1);
        is("scheduleBits(), slot limit 0", bus.scheduleBits(), 8);
        bus.setSlotLimit(1);
        bus.runRounds(1);
        is("scheduleBits() of one entry", bus.scheduleBits(), 11);
        bus.removeStream(0);
        is("scheduleBits() after removeStream", bus.scheduleBits(), 8);
        bus.runRounds(1);
        is("scheduleBits() without a stream", bus.scheduleBits(), 8);
        FloodBus dead = withStreams("2", 0);
        dead.runRounds(1);
        dead.setAlive(0, false);
        dead.runRounds(1);
        is("scheduleBits() under a dead host", dead.scheduleBits(), 8);
    }

    private void whichNodeIsHost() {
        FloodBus bus = loaded("3;015;125");
        is("host() of a new network", bus.host(), 0);
        bus.setAlive(0, false);
        is("host() that is dead", bus.host(), 0);
        bus.runRounds(2);
        is("host() after the takeover", bus.host(), 1);
        Due.type(bus, "3");
        bus.loadNetwork();
        is("host() of the next network", bus.host(), 0);
    }

    private void everyNodeCanBeHost() {
        FloodBus bus = loaded(CHAIN_OF_EIGHT);
        bus.setTakeoverLimit(1);
        for (int node = 0; node < 7; node++) {
            is("host()", bus.host(), node);
            bus.setAlive(node, false);
            bus.runRounds(1);
        }
        is("host(), the last node", bus.host(), 7);
    }

    private void noHostWithoutANetwork() {
        FloodBus bus = new FloodBus();
        is("host()", bus.host(), NONE);
        Due.type(bus, "2;01");
        bus.loadNetwork();
        bus.runRounds(1);
        bus.setAlive(0, true);
        is("host() after refused calls", bus.host(), NONE);
        bus.append('5');
        bus.loadNetwork();
        is("host() with a network", bus.host(), 0);
    }

    /** Of the chain, node 1 always has the schedule, node 2 never (link 1-2 loses slots 1 and 3), node 3 is set dead and alive. */
    private void toldCounts() {
        FloodBus bus = loaded("4;015;1252;235");
        row("missedSchedules before the first round", bus::missedSchedules, 0, 0, 0, 0);
        bus.runRounds(1);
        row("missedSchedules after one round", bus::missedSchedules, 0, 0, 1, 1);
        bus.flood(8);
        row("missedSchedules: a flood does not count", bus::missedSchedules, 0, 0, 1, 1);
        bus.runRounds(20);
        row("missedSchedules after 21 rounds", bus::missedSchedules, 0, 0, 21, 21);
        bus.setAlive(3, false);
        bus.setAlive(3, true);
        bus.runRounds(1);
        row("missedSchedules: node 3 began anew", bus::missedSchedules, 0, 0, 22, 1);
        bus.runRounds(21);
        row("missedSchedules after a refused call", bus::missedSchedules, 0, 0, 22, 1);
    }

    private void nodesThatCount() {
        for (int nodes = 2; nodes <= 8; nodes++) {
            FloodBus bus = loaded("" + nodes);
            bus.runRounds(2);
            is("missedSchedules(0) of the host", bus.missedSchedules(0), 0);
            for (int node = 1; node < nodes; node++) {
                is("missedSchedules(" + node + ") of " + nodes, bus.missedSchedules(node), 2);
            }
            is("missedSchedules(" + nodes + ") of " + nodes, bus.missedSchedules(nodes), INVALID_INDEX);
        }
    }

    private void greatCounts() {
        FloodBus bus = loaded("2");
        for (int i = 0; i < 400; i++) {
            bus.runRounds(20);
        }
        row("missedSchedules of 8000 rounds", bus::missedSchedules, 0, 8000);
    }

    private void missedSchedulesOfNoNode() {
        int[] wrong = {-1, 5, 7, 8, 256, Integer.MIN_VALUE, Integer.MAX_VALUE};
        for (int node : wrong) {
            refused("missedSchedules(" + node + ")", SentenceGroup::busy, bus -> bus.missedSchedules(node), INVALID_INDEX);
            refused("missedSchedules(" + node + ") without a network", FloodBus::new, bus -> bus.missedSchedules(node), INVALID_INDEX);
        }
        refused("missedSchedules(0) without a network", FloodBus::new, bus -> bus.missedSchedules(0), INVALID_INDEX);
    }

    private void numberOfTheNextRound() {
        FloodBus bus = loaded("2");
        bus.addStream(0, 9, 5);
        bus.runRounds(5);
        is("roundNumber(): the round in which the stream starts", bus.roundNumber(), 5);
        is("runRounds(1)", bus.runRounds(1), 1);
        bus.runRounds(0);
        bus.runRounds(21);
        is("roundNumber() after refused calls", bus.roundNumber(), 6);
        Due.type(bus, "2");
        bus.loadNetwork();
        is("roundNumber() of a new network", bus.roundNumber(), 0);
    }

    private void fromZeroTo9999() {
        FloodBus bus = loaded("2");
        is("roundNumber() before the first round", bus.roundNumber(), 0);
        bus.runRounds(1);
        is("roundNumber() after one round", bus.roundNumber(), 1);
        FloodBus late = late();
        is("roundNumber() after 499 times 20 rounds", late.roundNumber(), 9980);
        late.runRounds(19);
        is("roundNumber(), the greatest", late.roundNumber(), 9999);
        late.runRounds(1);
        is("roundNumber() after a refused call", late.roundNumber(), 9999);
    }

    private void roundNumberWithoutANetwork() {
        FloodBus bus = new FloodBus();
        is("roundNumber()", bus.roundNumber(), 0);
        bus.runRounds(1);
        is("roundNumber() after a refused call", bus.roundNumber(), 0);
    }
}
