/** Promises 20 to 24 and 26: rounds, schedules, hosts. */
public final class RoundTest {
    private static final Due due = new Due("RoundTest");

    public static void main(String[] args) {
        promise20Errors();
        promise20LastRound();
        promise20SumsUp();
        packetThatDoesNotReachTheHost();
        packetsOfTheHost();
        sourceThatMissedTheSchedule();
        floodsOfARound();
        emptyScheduleIsFlooded();
        deadHostFloodsNothing();
        promise21Entries();
        promise21Order();
        promise21Cut();
        promise22Bits();
        promise22OnlyEntriesCount();
        promise23LowestIndexTakesOver();
        promise23OnlyEnoughMissed();
        promise23HostIsBack();
        promise23NodeZeroTakesOver();
        promise23EightNodes();
        promise24Counts();
        promise24HostCounts();
        promise26Number();
        due.end();
    }

    private static void promise20Errors() {
        FloodBus none = new FloodBus();
        FloodBus bus = Due.loaded("2;015");
        int[] wrong = {0, 21, -1, Integer.MIN_VALUE, Integer.MAX_VALUE};
        for (int count : wrong) {
            due.is("runRounds(" + count + ") without a network", none.runRounds(count), FloodBus.INVALID_VALUE);
            due.is("runRounds(" + count + ")", bus.runRounds(count), FloodBus.INVALID_VALUE);
        }
        due.is("runRounds(1) without a network", none.runRounds(1), FloodBus.INVALID_STATE);
        due.is("runRounds(20) without a network", none.runRounds(20), FloodBus.INVALID_STATE);
        due.is("roundNumber()", bus.roundNumber(), 0);
        due.is("runRounds(20)", bus.runRounds(20), 0);
        due.is("runRounds(1)", bus.runRounds(1), 0);
        due.is("roundNumber()", bus.roundNumber(), 21);
    }

    private static void promise20LastRound() {
        FloodBus bus = Due.loaded("2");
        bus.addStream(0, 1, 0);
        for (int i = 0; i < 499; i++) {
            due.is("runRounds(20)", bus.runRounds(20), 20);
        }
        due.is("roundNumber()", bus.roundNumber(), 9980);
        long before = bus.digest();
        due.is("runRounds(20) to 10000", bus.runRounds(20), FloodBus.CAPACITY_EXCEEDED);
        due.is("runRounds(21) at 9980", bus.runRounds(21), FloodBus.INVALID_VALUE);
        due.is("digest() after it", bus.digest(), before);
        due.is("runRounds(19) to 9999", bus.runRounds(19), 19);
        due.is("roundNumber()", bus.roundNumber(), 9999);
        due.is("runRounds(1) at 9999", bus.runRounds(1), FloodBus.CAPACITY_EXCEEDED);
        due.is("deliveredPackets(0), the 511th call", bus.deliveredPackets(0), 9999);
    }

    private static void promise20SumsUp() {
        FloodBus bus = Due.loaded("3;015;125");
        bus.addStream(0, 1, 0);
        bus.addStream(1, 2, 0);
        bus.addStream(2, 3, 0);
        due.is("runRounds(6)", bus.runRounds(6), 11);
        due.is("runRounds(6) again, only these rounds", bus.runRounds(6), 11);
        due.row("deliveredPackets", bus::deliveredPackets, 12, 6, 4);
    }

    /** The schedule passes link 0-1 in slot 0, the packet of node 3 would pass it in slot 2. */
    private static void packetThatDoesNotReachTheHost() {
        FloodBus bus = Due.loaded("4;015;125;235");
        bus.setTransmissionLimit(1);
        bus.addStream(3, 1, 0);
        due.is("runRounds(1)", bus.runRounds(1), 1);
        FloodBus lossy = Due.loaded("4;0153;125;235");
        lossy.setTransmissionLimit(1);
        lossy.addStream(3, 1, 0);
        due.is("runRounds(1) over a link that loses slot 2", lossy.runRounds(1), 0);
        due.is("missedSchedules(3)", lossy.missedSchedules(3), 0);
        due.is("lostPackets(0)", lossy.lostPackets(0), 1);
        due.is("waitingPackets(0)", lossy.waitingPackets(0), 0);
        due.row("packetAt after the packet's flood", lossy::packetAt, -1, 3, 3, 3);
        due.row("transmissions", lossy::transmissions, 1, 2, 2, 2);
    }

    private static void packetsOfTheHost() {
        FloodBus bus = Due.loaded("2");
        bus.addStream(0, 1, 0);
        due.is("runRounds(2) of a lone host", bus.runRounds(2), 2);
        due.row("transmissions: schedule and packet", bus::transmissions, 8, 0);
        due.row("missedSchedules", bus::missedSchedules, 0, 2);
    }

    private static void sourceThatMissedTheSchedule() {
        FloodBus bus = Due.loaded("3;0152;125");
        bus.addStream(1, 1, 0);
        bus.addStream(2, 1, 0);
        due.is("runRounds(1)", bus.runRounds(1), 1);
        due.row("lostPackets", bus::lostPackets, 0, 1);
        FloodBus missed = Due.loaded("3;125");
        missed.addStream(2, 1, 0);
        missed.addStream(0, 1, 0);
        missed.addStream(1, 1, 0);
        due.is("runRounds(1)", missed.runRounds(1), 1);
        due.row("lostPackets", missed::lostPackets, 1, 0, 1);
        due.row("transmissions: no flood of those", missed::transmissions, 4, 0, 0);
        due.row("packetAt: the latest flood is the host's", missed::packetAt, 0, -1, -1);
        due.row("missedSchedules: data floods do not count", missed::missedSchedules, 0, 1, 1);
    }

    /** Node 2 gets the flood of node 1, but it missed the schedule all the same. */
    private static void floodsOfARound() {
        FloodBus bus = Due.loaded("3;015;1252");
        bus.addStream(1, 1, 0);
        bus.addStream(2, 1, 0);
        due.is("runRounds(1)", bus.runRounds(1), 1);
        due.row("packetAt", bus::packetAt, 1, 1, 1);
        due.row("hopCount", bus::hopCount, 1, 0, 1);
        due.is("floodLength()", bus.floodLength(), 4);
        due.row("missedSchedules", bus::missedSchedules, 0, 0, 1);
        due.row("deliveredPackets", bus::deliveredPackets, 1, 0);
        due.row("lostPackets", bus::lostPackets, 0, 1);
        due.row("transmissions", bus::transmissions, 4, 4, 2);
    }

    private static void emptyScheduleIsFlooded() {
        FloodBus bus = Due.loaded("3;015;125");
        due.is("runRounds(1) without streams", bus.runRounds(1), 0);
        due.row("packetAt", bus::packetAt, 0, 0, 0);
        due.row("transmissions", bus::transmissions, 2, 2, 2);
        bus.addStream(1, 1, 0);
        bus.setSlotLimit(0);
        due.is("runRounds(1) without slots", bus.runRounds(1), 0);
        due.row("transmissions", bus::transmissions, 4, 4, 4);
        due.is("scheduleBits()", bus.scheduleBits(), 8);
    }

    private static void deadHostFloodsNothing() {
        FloodBus bus = Due.loaded("3;015;125");
        bus.addStream(1, 1, 0);
        bus.addStream(0, 1, 0);
        bus.runRounds(1);
        due.row("scheduledStream", bus::scheduledStream, 0, 1, -1);
        bus.flood(4);
        bus.setAlive(0, false);
        due.row("scheduledStream of the latest round", bus::scheduledStream, 0, 1, -1);
        due.is("runRounds(1)", bus.runRounds(1), 0);
        due.row("scheduledStream", bus::scheduledStream, -1, -1, -1);
        due.is("scheduleBits()", bus.scheduleBits(), 8);
        due.row("packetAt is the old one's", bus::packetAt, 2, 2, 2);
        due.row("waitingPackets", bus::waitingPackets, 1, 1);
        due.row("transmissions", bus::transmissions, 8, 8, 8);
        due.is("roundNumber()", bus.roundNumber(), 2);
        due.is("runRounds(1), node 1 takes over at its end", bus.runRounds(1), 0);
        due.is("host()", bus.host(), 1);
        due.row("transmissions", bus::transmissions, 8, 8, 8);
        due.is("runRounds(1), the new host delivers its own", bus.runRounds(1), 1);
        due.row("lostPackets", bus::lostPackets, 0, 1);
        due.row("waitingPackets", bus::waitingPackets, 2, 2);
    }

    private static void promise21Entries() {
        FloodBus bus = Due.loaded("2;015");
        bus.addStream(0, 1, 0);
        bus.addStream(1, 1, 0);
        int[] wrong = {-1, 2, 3, 6, 7, Integer.MIN_VALUE, Integer.MAX_VALUE};
        for (int entry : wrong) {
            due.is("scheduledStream(" + entry + ") before a round", bus.scheduledStream(entry), FloodBus.NONE);
        }
        due.is("scheduledStream(0) before a round", bus.scheduledStream(0), FloodBus.NONE);
        bus.runRounds(1);
        for (int entry : wrong) {
            due.is("scheduledStream(" + entry + ")", bus.scheduledStream(entry), FloodBus.NONE);
        }
        due.row("scheduledStream", bus::scheduledStream, 0, 1);
        bus.addStream(0, 1, 0);
        due.row("scheduledStream after addStream", bus::scheduledStream, 0, 1, -1);
        due.is("scheduleBits() after addStream", bus.scheduleBits(), 14);
    }

    private static void promise21Order() {
        FloodBus bus = Due.loaded("2;015");
        bus.setSlotLimit(0);
        int[] starts = {3, 1, 2, 1, 0, 3};
        for (int start : starts) {
            bus.addStream(0, 9, start);
        }
        bus.runRounds(3);
        bus.setSlotLimit(6);
        due.is("runRounds(1)", bus.runRounds(1), 6);
        due.row("scheduledStream", bus::scheduledStream, 4, 1, 3, 2, 0, 5, -1);
        due.is("runRounds(1) with nothing waiting", bus.runRounds(1), 0);
        due.row("scheduledStream", bus::scheduledStream, -1);
    }

    private static void promise21Cut() {
        FloodBus bus = Due.loaded("2;015");
        bus.setSlotLimit(2);
        for (int i = 0; i < 4; i++) {
            bus.addStream(1, 2, i < 2 ? 1 : 0);
        }
        due.is("runRounds(1), round 0", bus.runRounds(1), 2);
        due.row("scheduledStream", bus::scheduledStream, 2, 3, -1);
        bus.setSlotLimit(1);
        due.is("runRounds(1), round 1", bus.runRounds(1), 1);
        due.row("scheduledStream", bus::scheduledStream, 0, -1);
        due.is("runRounds(1), round 2", bus.runRounds(1), 1);
        due.row("scheduledStream, the older one first", bus::scheduledStream, 1, -1);
        due.row("waitingPackets", bus::waitingPackets, 0, 0, 1, 1);
    }

    private static void promise22Bits() {
        int[] distinct = {8, 11, 14, 16, 16, 16, 16};
        int[] repeated = {8, 11, 14, 17, 20, 23, 26};
        for (int size = 0; size <= 6; size++) {
            FloodBus apart = Due.loaded("6;015;125;235;345;455");
            FloodBus twice = Due.loaded("6;015;125;235;345;455");
            apart.setSlotLimit(6);
            twice.setSlotLimit(6);
            for (int i = 0; i < size; i++) {
                apart.addStream(5 - i, 1, 0);
                twice.addStream(i == size - 1 ? 0 : i, 1, 0);
            }
            due.is("scheduleBits() before a round", apart.scheduleBits(), 8);
            due.is("runRounds(1)", apart.runRounds(1), size);
            due.is("scheduleBits() of " + size + " sources", apart.scheduleBits(), distinct[size]);
            twice.runRounds(1);
            due.is("scheduleBits() of " + size + " with one source twice", twice.scheduleBits(), repeated[size]);
        }
    }

    /** A stream that isn't in the schedule does not make its source count twice. */
    private static void promise22OnlyEntriesCount() {
        FloodBus bus = Due.loaded("4;015;125;235");
        for (int i = 0; i < 4; i++) {
            bus.addStream(i % 3, 1, 0);
        }
        bus.runRounds(1);
        due.row("scheduledStream", bus::scheduledStream, 0, 1, 2, -1);
        due.is("scheduleBits()", bus.scheduleBits(), 16);
        bus.setSlotLimit(6);
        bus.runRounds(1);
        due.row("scheduledStream", bus::scheduledStream, 3, 0, 1, 2, -1);
        due.is("scheduleBits()", bus.scheduleBits(), 20);
    }

    private static void promise23LowestIndexTakesOver() {
        FloodBus bus = Due.loaded("4;015;125;235");
        due.is("host()", bus.host(), 0);
        bus.setAlive(0, false);
        bus.setAlive(1, false);
        bus.runRounds(2);
        due.is("host()", bus.host(), 2);
        due.row("missedSchedules", bus::missedSchedules, 0, 0, 0, 2);
        bus.runRounds(1);
        due.row("missedSchedules under the new host", bus::missedSchedules, 0, 0, 0, 0);
        bus.setAlive(2, false);
        bus.runRounds(2);
        due.is("host()", bus.host(), 3);
        bus.setAlive(3, false);
        due.is("runRounds(20) with all dead", bus.runRounds(20), 0);
        due.is("host() with all dead", bus.host(), 3);
        due.row("missedSchedules with all dead", bus::missedSchedules, 0, 0, 0, 0);
        bus.setAlive(3, true);
        due.is("runRounds(1) of the host that is back", bus.runRounds(1), 0);
        due.is("host()", bus.host(), 3);
    }

    private static void promise23OnlyEnoughMissed() {
        FloodBus bus = Due.loaded("3;015");
        bus.setTakeoverLimit(4);
        bus.runRounds(3);
        due.row("missedSchedules", bus::missedSchedules, 0, 0, 3);
        due.is("host() alive, whoever missed", bus.host(), 0);
        bus.runRounds(5);
        due.is("host() alive, whoever missed", bus.host(), 0);
        bus.setAlive(0, false);
        bus.runRounds(1);
        due.is("host(), node 1 has missed too few", bus.host(), 2);
        due.row("missedSchedules", bus::missedSchedules, 0, 1, 0);
        bus.setAlive(2, false);
        bus.setTakeoverLimit(2);
        bus.runRounds(1);
        due.is("host(), counted with this round", bus.host(), 1);
    }

    private static void promise23HostIsBack() {
        FloodBus bus = Due.loaded("3;015;125");
        bus.setAlive(0, false);
        bus.runRounds(1);
        bus.setAlive(0, true);
        bus.runRounds(1);
        due.is("host() that came back in time", bus.host(), 0);
        due.row("missedSchedules", bus::missedSchedules, 0, 0, 0);
        bus.setAlive(0, false);
        bus.runRounds(2);
        bus.setAlive(0, true);
        bus.runRounds(3);
        due.is("host() stays the new one", bus.host(), 1);
        due.row("packetAt: the schedule is node 1's", bus::packetAt, 1, 1, 1);
    }

    private static void promise23NodeZeroTakesOver() {
        FloodBus bus = Due.loaded("3;015;125");
        bus.setAlive(0, false);
        bus.runRounds(2);
        due.is("host()", bus.host(), 1);
        bus.setAlive(0, true);
        bus.runRounds(1);
        bus.setAlive(1, false);
        bus.runRounds(1);
        due.row("missedSchedules", bus::missedSchedules, 1, 0, 1);
        bus.runRounds(1);
        due.is("host() is node 0 again", bus.host(), 0);
        due.row("missedSchedules", bus::missedSchedules, 0, 0, 2);
    }

    private static void promise23EightNodes() {
        FloodBus bus = Due.loaded("8;015;125;235;345;455;565;675");
        for (int node = 0; node < 7; node++) {
            bus.setAlive(node, false);
            bus.runRounds(1);
            due.is("host() after a round without node " + node, bus.host(), node);
            bus.runRounds(1);
            due.is("host() after two rounds without node " + node, bus.host(), node + 1);
            bus.runRounds(1);
            due.is("missedSchedules(7) under the new host", bus.missedSchedules(7), 0);
        }
        bus.setAlive(7, false);
        bus.runRounds(20);
        due.is("host() when all are dead", bus.host(), 7);
        due.row("missedSchedules when all are dead", bus::missedSchedules, 0, 0, 0, 0, 0, 0, 0, 0);
    }

    private static void promise24Counts() {
        FloodBus bus = Due.loaded("4;015;2352");
        int[] wrong = {-1, 4, 8, Integer.MIN_VALUE, Integer.MAX_VALUE};
        for (int node : wrong) {
            due.is("missedSchedules(" + node + ")", bus.missedSchedules(node), FloodBus.INVALID_INDEX);
        }
        due.row("missedSchedules", bus::missedSchedules, 0, 0, 0, 0);
        bus.runRounds(20);
        due.row("missedSchedules", bus::missedSchedules, 0, 0, 20, 20);
        bus.flood(4);
        due.row("missedSchedules after a flood", bus::missedSchedules, 0, 0, 20, 20);
        bus.setAlive(1, false);
        bus.runRounds(1);
        due.row("missedSchedules with node 1 dead", bus::missedSchedules, 0, 0, 21, 21);
        bus.setAlive(0, false);
        bus.setTakeoverLimit(9);
        bus.runRounds(1);
        due.row("missedSchedules after the takeover", bus::missedSchedules, 0, 0, 0, 22);
        bus.setTransmissionLimit(1);
        bus.runRounds(1);
        due.row("missedSchedules in a row, ended by a schedule", bus::missedSchedules, 0, 0, 0, 0);
    }

    private static void promise24HostCounts() {
        FloodBus bus = Due.loaded("2");
        bus.runRounds(2);
        due.row("missedSchedules", bus::missedSchedules, 0, 2);
        bus.setAlive(0, false);
        bus.setTakeoverLimit(9);
        bus.runRounds(2);
        due.row("missedSchedules under a dead host", bus::missedSchedules, 0, 4);
        bus.setAlive(0, true);
        due.row("missedSchedules of the other stays", bus::missedSchedules, 0, 4);
    }

    private static void promise26Number() {
        FloodBus bus = new FloodBus();
        due.is("roundNumber() without a network", bus.roundNumber(), 0);
        Due.type(bus, "2");
        bus.loadNetwork();
        due.is("roundNumber()", bus.roundNumber(), 0);
        bus.runRounds(1);
        due.is("roundNumber()", bus.roundNumber(), 1);
        bus.runRounds(20);
        due.is("roundNumber()", bus.roundNumber(), 21);
        bus.flood(1);
        bus.runRounds(0);
        due.is("roundNumber()", bus.roundNumber(), 21);
        bus.setAlive(0, false);
        bus.runRounds(3);
        due.is("roundNumber() under a dead host", bus.roundNumber(), 24);
        Due.type(bus, "3");
        bus.loadNetwork();
        due.is("roundNumber() of a new network", bus.roundNumber(), 0);
    }
}
