/** Promises 11 to 14 and 25: floods, and what they leave. */
public final class FloodTest {
    private static final Due due = new Due("FloodTest");

    public static void main(String[] args) {
        promise11WrongMasks();
        promise11DeadInitiators();
        promise11ErrorsChangeNothing();
        promise11LeavesRounds();
        chain();
        longFlood();
        lossPeriods();
        lossInBothDirections();
        levelOfAPacket();
        levelOfOtherPackets();
        samePacketNeedsNoMargin();
        lostSignalsAreNotHeard();
        laterSlotIsHeard();
        noMoreThanTheLimit();
        holderIgnoresSignals();
        promise12And13Indices();
        promise14Length();
        promise25Counts();
        due.end();
    }

    private static void promise11WrongMasks() {
        FloodBus none = new FloodBus();
        int[] wrongAlways = {0, -1, Integer.MIN_VALUE, Integer.MAX_VALUE, 256, 1 << 30, 1 << 16};
        for (int mask : wrongAlways) {
            due.is("flood(" + mask + ") without a network", none.flood(mask), FloodBus.INVALID_VALUE);
            due.is("flood(" + mask + ")", Due.loaded("8").flood(mask), FloodBus.INVALID_VALUE);
        }
        due.is("flood(1) without a network", none.flood(1), FloodBus.INVALID_VALUE);
        for (int nodes = 2; nodes <= 8; nodes++) {
            FloodBus bus = Due.loaded(String.valueOf(nodes));
            due.is("flood of all of " + nodes, bus.flood((1 << nodes) - 1), nodes);
            due.is("flood of the last of " + nodes, bus.flood(1 << (nodes - 1)), 1);
            due.is("flood of one behind " + nodes, bus.flood(1 << nodes), FloodBus.INVALID_VALUE);
            due.is("flood of 0 and one behind " + nodes, bus.flood(1 | 1 << nodes), FloodBus.INVALID_VALUE);
        }
    }

    private static void promise11DeadInitiators() {
        FloodBus bus = Due.loaded("3;015;125");
        bus.setAlive(1, false);
        due.is("flood(2)", bus.flood(2), FloodBus.INVALID_STATE);
        due.is("flood(3)", bus.flood(3), FloodBus.INVALID_STATE);
        due.is("flood(7)", bus.flood(7), FloodBus.INVALID_STATE);
        due.is("flood(10), wrong before dead", bus.flood(10), FloodBus.INVALID_VALUE);
        due.is("flood(5)", bus.flood(5), 2);
        for (int node = 0; node < 8; node++) {
            FloodBus eight = Due.loaded("8;015");
            eight.setAlive(node, false);
            due.is("flood of dead node " + node, eight.flood(1 << node), FloodBus.INVALID_STATE);
            due.is("flood of all with dead node " + node, eight.flood(255), FloodBus.INVALID_STATE);
            due.is("flood of all others", eight.flood(255 - (1 << node)), 7);
        }
    }

    private static void promise11ErrorsChangeNothing() {
        FloodBus bus = Due.loaded("3;015;125");
        bus.flood(2);
        bus.setAlive(2, false);
        long before = bus.digest();
        bus.flood(4);
        bus.flood(8);
        bus.flood(0);
        bus.flood(-1);
        due.is("digest() after wrong floods", bus.digest(), before);
    }

    private static void promise11LeavesRounds() {
        FloodBus bus = Due.loaded("3;015");
        bus.addStream(0, 1, 0);
        bus.addStream(1, 1, 0);
        bus.setSlotLimit(1);
        bus.runRounds(2);
        bus.flood(7);
        bus.flood(2);
        due.is("roundNumber()", bus.roundNumber(), 2);
        due.row("waitingPackets", bus::waitingPackets, 1, 1);
        due.row("deliveredPackets", bus::deliveredPackets, 1, 1);
        due.row("scheduledStream", bus::scheduledStream, 1, -1);
        due.row("missedSchedules", bus::missedSchedules, 0, 0, 2);
        due.is("scheduleBits()", bus.scheduleBits(), 11);
    }

    private static void chain() {
        FloodBus bus = Due.loaded("5;011;121;231;341");
        due.is("flood(1)", bus.flood(1), 5);
        due.row("packetAt", bus::packetAt, 0, 0, 0, 0, 0);
        due.row("hopCount", bus::hopCount, 0, 1, 2, 3, 4);
        due.is("floodLength()", bus.floodLength(), 7);
        due.is("flood(17)", bus.flood(17), 4);
        due.row("packetAt", bus::packetAt, 0, 0, -1, 4, 4);
        due.row("hopCount", bus::hopCount, 0, 1, -1, 1, 0);
        due.is("floodLength()", bus.floodLength(), 4);
        due.is("flood(4)", bus.flood(4), 5);
        due.row("hopCount", bus::hopCount, 2, 1, 0, 1, 2);
        bus.setAlive(3, false);
        due.is("flood(4) with node 3 dead", bus.flood(4), 3);
        due.row("hopCount", bus::hopCount, 2, 1, 0, -1, -1);
    }

    /** With loss period 3 on each link a packet waits at nearly every node for the second transmission. */
    private static void longFlood() {
        FloodBus bus = Due.loaded("8;0193;1293;2393;3493;4593;5693;6793");
        bus.setTransmissionLimit(4);
        due.is("flood(1)", bus.flood(1), 8);
        due.row("hopCount", bus::hopCount, 0, 1, 2, 5, 8, 11, 14, 17);
        due.is("floodLength()", bus.floodLength(), 24);
        bus.setTransmissionLimit(1);
        due.is("flood(1) with one transmission", bus.flood(1), 3);
        due.is("floodLength() with one transmission", bus.floodLength(), 3);
    }

    private static void lossPeriods() {
        for (int period = 2; period <= 9; period++) {
            for (int limit = 1; limit <= 4; limit++) {
                FloodBus bus = Due.loaded("3;019;129" + period);
                bus.setTransmissionLimit(limit);
                bus.flood(1);
                int hops = -1;
                for (int slot = 1 + 2 * (limit - 1); slot >= 1; slot -= 2) {
                    if ((slot + 1) % period != 0) {
                        hops = slot + 1;
                    }
                }
                due.is("hopCount(2), period " + period + ", limit " + limit, bus.hopCount(2), hops);
                due.is("packetAt(2), period " + period + ", limit " + limit, bus.packetAt(2), hops < 0 ? -1 : 0);
                due.is("floodLength()", bus.floodLength(), Math.max(hops, 1) + 2 * limit - 1);
            }
        }
    }

    private static void lossInBothDirections() {
        FloodBus bus = Due.loaded("3;0192;129");
        due.is("flood(4)", bus.flood(4), 2);
        due.row("packetAt", bus::packetAt, -1, 2, 2);
        due.is("flood(2)", bus.flood(2), 3);
        FloodBus weak = Due.loaded("3;014;127");
        weak.flood(5);
        due.row("packetAt, strengths backwards", weak::packetAt, 0, 2, 2);
    }

    /** Signals of one packet do not add up: its level is the greatest of them. */
    private static void levelOfAPacket() {
        FloodBus late = Due.loaded("6;019;029;139;232;459;358");
        late.setTransmissionLimit(1);
        late.setCaptureMargin(1);
        due.is("flood(17)", late.flood(17), 6);
        due.row("hopCount", late::hopCount, 0, 1, 1, 2, 0, 1);
        due.is("packetAt(3): 9 and 2 against 8", late.packetAt(3), 0);
        late.setCaptureMargin(2);
        due.is("flood(17), margin 2", late.flood(17), 5);
        due.is("packetAt(3): 9 and 2 against 8, margin 2", late.packetAt(3), -1);
        FloodBus sum = Due.loaded("6;019;029;135;234;459;357");
        sum.setTransmissionLimit(1);
        sum.setCaptureMargin(1);
        due.is("flood(17)", sum.flood(17), 6);
        due.is("packetAt(3): 5 and 4 against 7", sum.packetAt(3), 4);
    }

    /** The margin holds against every other packet, so against the strongest of them. */
    private static void levelOfOtherPackets() {
        String[] orders = {"4;039;135;236", "4;039;136;235", "4;036;139;235", "4;035;139;236", "4;035;136;239", "4;036;135;239"};
        int[] strongest = {0, 0, 1, 1, 2, 2};
        for (int i = 0; i < orders.length; i++) {
            FloodBus bus = Due.loaded(orders[i]);
            due.is("flood(7) over " + orders[i], bus.flood(7), 4);
            due.is("packetAt(3) over " + orders[i], bus.packetAt(3), strongest[i]);
            bus.setCaptureMargin(4);
            due.is("flood(7), margin 4, over " + orders[i], bus.flood(7), 3);
            due.is("packetAt(3), margin 4, over " + orders[i], bus.packetAt(3), -1);
        }
        FloodBus equal = Due.loaded("4;035;135;231");
        equal.setCaptureMargin(1);
        due.is("flood(7) with equal levels", equal.flood(7), 3);
    }

    private static void samePacketNeedsNoMargin() {
        FloodBus one = Due.loaded("2;011");
        one.setCaptureMargin(9);
        due.is("flood(1) at strength 1, margin 9", one.flood(1), 2);
        FloodBus two = Due.loaded("4;011;021;131;231");
        two.setCaptureMargin(9);
        due.is("flood(1) over two ways", two.flood(1), 4);
        due.row("hopCount", two::hopCount, 0, 1, 1, 2);
    }

    /** Two packets come to node 4 in slots 1 and 3, in which a link with loss period 2 loses. */
    private static void lostSignalsAreNotHeard() {
        FloodBus bus = Due.loaded("5;019;149;239;349");
        due.is("flood(5)", bus.flood(5), 4);
        due.is("packetAt(4)", bus.packetAt(4), -1);
        FloodBus first = Due.loaded("5;019;1492;239;349");
        due.is("flood(5) when link 1-4 loses", first.flood(5), 5);
        due.row("packetAt", first::packetAt, 0, 0, 2, 2, 2);
        due.row("hopCount", first::hopCount, 0, 1, 0, 1, 2);
        FloodBus second = Due.loaded("5;019;149;239;3492");
        due.is("flood(5) when link 3-4 loses", second.flood(5), 5);
        due.is("packetAt(4) when link 3-4 loses", second.packetAt(4), 0);
    }

    /** Two packets collide in slot 0; in slot 2 one of the links loses, and the other packet comes through. */
    private static void laterSlotIsHeard() {
        FloodBus bus = Due.loaded("3;0253;125");
        due.is("flood(3)", bus.flood(3), 3);
        due.is("packetAt(2)", bus.packetAt(2), 1);
        due.is("hopCount(2)", bus.hopCount(2), 3);
        due.is("floodLength()", bus.floodLength(), 6);
        bus.setTransmissionLimit(1);
        due.is("flood(3) once", bus.flood(3), 2);
        due.is("floodLength() once", bus.floodLength(), 1);
    }

    /** Node 2 could tell the two packets apart in slot 2 (in slot 4), if the initiators still sent then. */
    private static void noMoreThanTheLimit() {
        FloodBus once = Due.loaded("6;0253;125;035;345;455");
        once.setTransmissionLimit(1);
        due.is("flood(3) once", once.flood(3), 5);
        due.is("floodLength()", once.floodLength(), 4);
        due.is("packetAt(2) after one transmission", once.packetAt(2), -1);
        FloodBus twice = Due.loaded("6;0255;125;035;345;455");
        due.is("flood(3) twice", twice.flood(3), 5);
        due.is("floodLength()", twice.floodLength(), 6);
        due.is("packetAt(2) after two transmissions", twice.packetAt(2), -1);
        twice.setTransmissionLimit(3);
        due.is("flood(3) three times", twice.flood(3), 6);
        due.is("packetAt(2) after three transmissions", twice.packetAt(2), 1);
        due.is("hopCount(2) after three transmissions", twice.hopCount(2), 5);
    }

    private static void holderIgnoresSignals() {
        FloodBus bus = Due.loaded("3;011;129;029");
        due.is("flood(7)", bus.flood(7), 3);
        due.row("packetAt", bus::packetAt, 0, 1, 2);
        due.row("hopCount", bus::hopCount, 0, 0, 0);
        due.is("floodLength()", bus.floodLength(), 3);
    }

    private static void promise12And13Indices() {
        FloodBus bus = Due.loaded("3;015");
        int[] wrong = {-1, 3, 8, 64, Integer.MIN_VALUE, Integer.MAX_VALUE};
        for (int node : wrong) {
            due.is("packetAt(" + node + ")", bus.packetAt(node), FloodBus.INVALID_INDEX);
            due.is("hopCount(" + node + ")", bus.hopCount(node), FloodBus.INVALID_INDEX);
            due.is("transmissions(" + node + ")", bus.transmissions(node), FloodBus.INVALID_INDEX);
        }
        due.row("packetAt before a flood", bus::packetAt, -1, -1, -1);
        due.row("hopCount before a flood", bus::hopCount, -1, -1, -1);
        bus.flood(2);
        due.row("packetAt", bus::packetAt, 1, 1, -1);
        due.row("hopCount", bus::hopCount, 1, 0, -1);
        bus.flood(4);
        due.row("packetAt of the next flood", bus::packetAt, -1, -1, 2);
        due.row("hopCount of the next flood", bus::hopCount, -1, -1, 0);
        bus.runRounds(1);
        due.row("packetAt after a round", bus::packetAt, 0, 0, -1);
        due.row("hopCount after a round", bus::hopCount, 0, 1, -1);
    }

    private static void promise14Length() {
        FloodBus bus = Due.loaded("4;015;125");
        due.is("floodLength() before a flood", bus.floodLength(), 0);
        bus.flood(8);
        due.is("floodLength() of a lone node", bus.floodLength(), 3);
        bus.flood(1);
        due.is("floodLength() over two hops", bus.floodLength(), 5);
        bus.flood(2);
        due.is("floodLength() over one hop", bus.floodLength(), 4);
        bus.runRounds(1);
        due.is("floodLength() of the schedule", bus.floodLength(), 5);
        bus.setAlive(0, false);
        bus.flood(8);
        bus.runRounds(1);
        due.is("floodLength() after a round without a flood", bus.floodLength(), 3);
    }

    private static void promise25Counts() {
        FloodBus bus = Due.loaded("4;015;125");
        due.row("transmissions at first", bus::transmissions, 0, 0, 0, 0, -1001);
        bus.flood(1);
        due.row("transmissions", bus::transmissions, 2, 2, 2, 0);
        bus.setTransmissionLimit(3);
        bus.flood(9);
        due.row("transmissions", bus::transmissions, 5, 5, 5, 3);
        bus.setAlive(1, false);
        due.row("transmissions of a dead node stay", bus::transmissions, 5, 5, 5, 3);
        bus.flood(1);
        due.row("transmissions", bus::transmissions, 8, 5, 5, 3);
        bus.runRounds(2);
        due.row("transmissions with two schedules", bus::transmissions, 14, 5, 5, 3);
        bus.setAlive(1, true);
        bus.addStream(2, 1, 0);
        bus.runRounds(1);
        due.row("transmissions with a schedule and a packet", bus::transmissions, 20, 11, 11, 3);
    }
}
