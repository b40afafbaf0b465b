/** Promises 15 to 19: streams and their packets. */
public final class StreamTest {
    private static final Due due = new Due("StreamTest");
    private static final int[] FAR = {Integer.MIN_VALUE, -1, Integer.MAX_VALUE};

    public static void main(String[] args) {
        promise15WrongArguments();
        promise15Capacity();
        promise15OrderOfErrors();
        promise15Generation();
        promise15AddedLate();
        promise15DeadSource();
        promise16Answers();
        promise16LaterStreamsMove();
        promise16EmptiesTheSchedule();
        promise16RowIsUsedAgain();
        promise17To19Indices();
        fifthWaitingPacketIsDropped();
        oldestPacketGoesFirst();
        promise18And19Counts();
        due.end();
    }

    private static void promise15WrongArguments() {
        FloodBus bus = Due.loaded("3;015");
        int[] sources = {-1, 3, 8, Integer.MIN_VALUE, Integer.MAX_VALUE};
        for (int source : sources) {
            due.is("addStream(" + source + ", 1, 0)", bus.addStream(source, 1, 0), FloodBus.INVALID_INDEX);
        }
        int[] periods = {0, 10, -1, Integer.MIN_VALUE, Integer.MAX_VALUE};
        for (int period : periods) {
            due.is("addStream(0, " + period + ", 0)", bus.addStream(0, period, 0), FloodBus.INVALID_VALUE);
        }
        int[] starts = {-1, 100, Integer.MIN_VALUE, Integer.MAX_VALUE};
        for (int start : starts) {
            due.is("addStream(0, 1, " + start + ")", bus.addStream(0, 1, start), FloodBus.INVALID_VALUE);
        }
        due.is("waitingPackets(0) after wrong calls", bus.waitingPackets(0), FloodBus.INVALID_INDEX);
        due.is("addStream(0, 1, 0)", bus.addStream(0, 1, 0), 0);
        due.is("addStream(2, 9, 99)", bus.addStream(2, 9, 99), 1);
        due.is("addStream(1, 9, 0)", bus.addStream(1, 9, 0), 2);
        due.is("addStream(1, 1, 99)", bus.addStream(1, 1, 99), 3);
        due.row("waitingPackets", bus::waitingPackets, 0, 0, 0, 0, -1001);
        due.row("deliveredPackets", bus::deliveredPackets, 0, 0, 0, 0, -1001);
        due.row("lostPackets", bus::lostPackets, 0, 0, 0, 0, -1001);
    }

    private static void promise15Capacity() {
        FloodBus bus = Due.loaded("2;015");
        for (int i = 0; i < 6; i++) {
            due.is("addStream, the " + i + "th", bus.addStream(i % 2, 1, 0), i);
        }
        long before = bus.digest();
        due.is("addStream, a seventh", bus.addStream(0, 1, 0), FloodBus.CAPACITY_EXCEEDED);
        due.is("digest() after it", bus.digest(), before);
        due.is("removeStream(2)", bus.removeStream(2), 5);
        due.is("addStream in the free place", bus.addStream(0, 1, 0), 5);
        due.is("addStream, a seventh again", bus.addStream(0, 1, 0), FloodBus.CAPACITY_EXCEEDED);
    }

    private static void promise15OrderOfErrors() {
        FloodBus bus = Due.loaded("2;015");
        due.is("addStream(2, 0, 0)", bus.addStream(2, 0, 0), FloodBus.INVALID_INDEX);
        due.is("addStream(-1, 1, 100)", bus.addStream(-1, 1, 100), FloodBus.INVALID_INDEX);
        for (int i = 0; i < 6; i++) {
            bus.addStream(0, 1, 0);
        }
        due.is("addStream(2, 1, 0) when full", bus.addStream(2, 1, 0), FloodBus.INVALID_INDEX);
        due.is("addStream(0, 10, 0) when full", bus.addStream(0, 10, 0), FloodBus.INVALID_VALUE);
        due.is("addStream(0, 1, 100) when full", bus.addStream(0, 1, 100), FloodBus.INVALID_VALUE);
        due.is("addStream(0, 1, 99) when full", bus.addStream(0, 1, 99), FloodBus.CAPACITY_EXCEEDED);
    }

    private static void promise15Generation() {
        for (int period = 1; period <= 9; period++) {
            for (int start = 0; start <= 10; start += 5) {
                FloodBus bus = Due.loaded("2;015");
                bus.addStream(1, period, start);
                int generated = 0;
                for (int round = 0; round < 30; round++) {
                    boolean generates = round >= start && (round - start) % period == 0;
                    generated += generates ? 1 : 0;
                    due.is("runRounds(1), period " + period + ", start " + start + ", round " + round,
                        bus.runRounds(1), generates ? 1 : 0);
                }
                due.is("deliveredPackets(0)", bus.deliveredPackets(0), generated);
            }
        }
        FloodBus late = Due.loaded("2;015");
        late.addStream(1, 9, 99);
        for (int i = 0; i < 4; i++) {
            due.is("runRounds(20) before round 99", late.runRounds(20), 0);
        }
        due.is("runRounds(19) up to round 98", late.runRounds(19), 0);
        due.is("runRounds(1), round 99", late.runRounds(1), 1);
        due.is("runRounds(8)", late.runRounds(8), 0);
        due.is("runRounds(1), round 108", late.runRounds(1), 1);
    }

    private static void promise15AddedLate() {
        FloodBus bus = Due.loaded("2;015");
        bus.runRounds(4);
        bus.addStream(1, 3, 0);
        due.is("waitingPackets(0), nothing from earlier rounds", bus.waitingPackets(0), 0);
        due.is("runRounds(2), rounds 4 and 5", bus.runRounds(2), 0);
        due.is("runRounds(1), round 6", bus.runRounds(1), 1);
    }

    private static void promise15DeadSource() {
        FloodBus bus = Due.loaded("2;015");
        bus.setAlive(1, false);
        bus.setSlotLimit(0);
        due.is("addStream(1, 1, 0) of a dead source", bus.addStream(1, 1, 0), 0);
        bus.runRounds(3);
        due.is("waitingPackets(0) of a dead source", bus.waitingPackets(0), 3);
    }

    private static void promise16Answers() {
        FloodBus bus = Due.loaded("2;015");
        for (int stream : FAR) {
            due.is("removeStream(" + stream + ")", bus.removeStream(stream), FloodBus.INVALID_INDEX);
        }
        due.is("removeStream(0) of none", bus.removeStream(0), FloodBus.INVALID_INDEX);
        for (int i = 0; i < 6; i++) {
            bus.addStream(0, 1, 0);
        }
        due.is("removeStream(6)", bus.removeStream(6), FloodBus.INVALID_INDEX);
        for (int left = 5; left >= 0; left--) {
            due.is("removeStream(" + left + ")", bus.removeStream(left), left);
            due.is("removeStream(" + left + ") again", bus.removeStream(left), FloodBus.INVALID_INDEX);
        }
    }

    /** Six streams that differ in waiting, delivered and lost packets: stream i has met i + 1 rounds. */
    private static FloodBus sixStreams() {
        FloodBus bus = Due.loaded("2;015");
        bus.setSlotLimit(0);
        for (int i = 0; i < 6; i++) {
            bus.addStream(1, 1, 5 - i);
        }
        bus.runRounds(6);
        bus.setSlotLimit(6);
        return bus;
    }

    private static void promise16LaterStreamsMove() {
        for (int removed = 0; removed < 6; removed++) {
            FloodBus bus = sixStreams();
            due.row("waitingPackets", bus::waitingPackets, 1, 2, 3, 4, 4, 4, -1001);
            due.row("lostPackets", bus::lostPackets, 0, 0, 0, 0, 1, 2, -1001);
            due.is("removeStream(" + removed + ")", bus.removeStream(removed), 5);
            for (int stream = 0; stream < 5; stream++) {
                int was = stream < removed ? stream : stream + 1;
                due.is("waitingPackets(" + stream + ")", bus.waitingPackets(stream), Math.min(was + 1, 4));
                due.is("lostPackets(" + stream + ")", bus.lostPackets(stream), Math.max(was - 3, 0));
                due.is("deliveredPackets(" + stream + ")", bus.deliveredPackets(stream), 0);
            }
            due.is("waitingPackets(5)", bus.waitingPackets(5), FloodBus.INVALID_INDEX);
            due.is("runRounds(1) of the five", bus.runRounds(1), 5);
        }
    }

    private static void promise16EmptiesTheSchedule() {
        FloodBus bus = Due.loaded("2;015");
        bus.addStream(0, 1, 0);
        bus.addStream(1, 1, 0);
        bus.addStream(0, 1, 50);
        bus.runRounds(1);
        due.row("scheduledStream", bus::scheduledStream, 0, 1, -1);
        due.is("scheduleBits()", bus.scheduleBits(), 14);
        bus.removeStream(9);
        due.row("scheduledStream after a wrong call", bus::scheduledStream, 0, 1, -1);
        bus.removeStream(2);
        due.row("scheduledStream after removeStream(2)", bus::scheduledStream, -1, -1, -1);
        due.is("scheduleBits() after removeStream(2)", bus.scheduleBits(), 8);
    }

    private static void promise16RowIsUsedAgain() {
        FloodBus bus = sixStreams();
        bus.runRounds(1);
        due.is("removeStream(1)", bus.removeStream(1), 5);
        due.is("addStream(0, 2, 0)", bus.addStream(0, 2, 0), 5);
        due.is("waitingPackets(5)", bus.waitingPackets(5), 0);
        due.is("deliveredPackets(5)", bus.deliveredPackets(5), 0);
        due.is("lostPackets(5)", bus.lostPackets(5), 0);
        bus.runRounds(2);
        due.is("deliveredPackets(5) later", bus.deliveredPackets(5), 1);
        due.is("deliveredPackets(0) later", bus.deliveredPackets(0), 3);
        for (int stream = 0; stream < 6; stream++) {
            FloodBus next = sixStreams();
            next.runRounds(1);
            next.removeStream(stream);
            due.is("addStream after removeStream(" + stream + ")", next.addStream(0, 2, 0), 5);
            due.is("waitingPackets(5)", next.waitingPackets(5), 0);
            due.is("deliveredPackets(5)", next.deliveredPackets(5), 0);
            due.is("lostPackets(5)", next.lostPackets(5), 0);
        }
    }

    private static void promise17To19Indices() {
        FloodBus bus = Due.loaded("2;015");
        bus.addStream(0, 1, 0);
        int[] wrong = {-1, 1, 5, 6, Integer.MIN_VALUE, Integer.MAX_VALUE};
        for (int stream : wrong) {
            due.is("waitingPackets(" + stream + ")", bus.waitingPackets(stream), FloodBus.INVALID_INDEX);
            due.is("deliveredPackets(" + stream + ")", bus.deliveredPackets(stream), FloodBus.INVALID_INDEX);
            due.is("lostPackets(" + stream + ")", bus.lostPackets(stream), FloodBus.INVALID_INDEX);
        }
    }

    private static void fifthWaitingPacketIsDropped() {
        FloodBus bus = Due.loaded("2;015");
        bus.addStream(1, 1, 0);
        bus.setSlotLimit(0);
        for (int round = 1; round <= 8; round++) {
            due.is("runRounds(1)", bus.runRounds(1), 0);
            due.is("waitingPackets(0) after " + round, bus.waitingPackets(0), Math.min(round, 4));
            due.is("lostPackets(0) after " + round, bus.lostPackets(0), Math.max(round - 4, 0));
        }
        bus.setSlotLimit(1);
        due.is("runRounds(1) with one slot", bus.runRounds(1), 1);
        due.is("waitingPackets(0)", bus.waitingPackets(0), 3);
        due.is("lostPackets(0): generated before one is removed", bus.lostPackets(0), 5);
    }

    /** The rounds of the kept packets show in the order of the schedule. */
    private static void oldestPacketGoesFirst() {
        FloodBus bus = Due.loaded("2;015");
        bus.addStream(1, 3, 2);
        bus.addStream(0, 1, 0);
        bus.setSlotLimit(0);
        bus.runRounds(4);
        bus.setSlotLimit(1);
        int[] first = {1, 1, 0, 1, 1, 0, 1};
        for (int round = 0; round < first.length; round++) {
            due.is("runRounds(1)", bus.runRounds(1), 1);
            due.is("scheduledStream(0), round " + (4 + round), bus.scheduledStream(0), first[round]);
        }
    }

    private static void promise18And19Counts() {
        FloodBus bus = Due.loaded("4;015;2352");
        bus.addStream(0, 1, 0);
        bus.addStream(1, 1, 0);
        bus.addStream(2, 1, 0);
        due.is("runRounds(3)", bus.runRounds(3), 6);
        due.row("deliveredPackets", bus::deliveredPackets, 3, 3, 0);
        due.row("lostPackets, the source misses the schedule", bus::lostPackets, 0, 0, 3);
        bus.setAlive(1, false);
        due.is("runRounds(2)", bus.runRounds(2), 2);
        due.row("deliveredPackets", bus::deliveredPackets, 5, 3, 0);
        due.row("lostPackets, a source is dead", bus::lostPackets, 0, 2, 5);
        due.row("waitingPackets", bus::waitingPackets, 0, 0, 0);
        bus.setAlive(0, false);
        due.is("runRounds(1) under a dead host", bus.runRounds(1), 0);
        due.row("waitingPackets", bus::waitingPackets, 1, 1, 1);
        due.row("lostPackets under a dead host", bus::lostPackets, 0, 2, 5);
    }
}
