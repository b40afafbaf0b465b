/** The five examples of the document's description, call by call. */
public final class ExamplesTest {
    private static final Due due = new Due("ExamplesTest");

    public static void main(String[] args) {
        linkBetweenTwoNodes();
        twoPacketsAtOnce();
        twoStreamsOfOneSource();
        deadHost();
        linkThatOccursTwice();
        due.end();
    }

    private static void append(FloodBus bus, int... codes) {
        for (int i = 0; i < codes.length; i++) {
            due.is("append(" + codes[i] + ")", bus.append(codes[i]), i + 1);
        }
    }

    private static void linkBetweenTwoNodes() {
        FloodBus bus = new FloodBus();
        append(bus, 50, 59, 48, 49, 57);
        due.is("1: loadNetwork()", bus.loadNetwork(), 2);
        due.is("1: flood(1)", bus.flood(1), 2);
        due.is("1: hopCount(1)", bus.hopCount(1), 1);
        due.is("1: floodLength()", bus.floodLength(), 4);
        due.is("1: transmissions(0)", bus.transmissions(0), 2);
    }

    private static void twoPacketsAtOnce() {
        FloodBus bus = new FloodBus();
        append(bus, 51, 59, 48, 50, 52, 59, 49, 50, 55);
        due.is("2: loadNetwork()", bus.loadNetwork(), 3);
        due.is("2: flood(3)", bus.flood(3), 3);
        due.is("2: packetAt(2)", bus.packetAt(2), 1);
        due.is("2: setCaptureMargin(4)", bus.setCaptureMargin(4), 3);
        due.is("2: flood(3)", bus.flood(3), 2);
        due.is("2: packetAt(2)", bus.packetAt(2), -1);
    }

    private static void twoStreamsOfOneSource() {
        FloodBus bus = new FloodBus();
        append(bus, 50, 59, 48, 49, 53);
        due.is("3: loadNetwork()", bus.loadNetwork(), 2);
        due.is("3: addStream(1, 1, 0)", bus.addStream(1, 1, 0), 0);
        due.is("3: addStream(1, 2, 1)", bus.addStream(1, 2, 1), 1);
        due.is("3: runRounds(1)", bus.runRounds(1), 1);
        due.is("3: scheduledStream(0)", bus.scheduledStream(0), 0);
        due.is("3: scheduledStream(1)", bus.scheduledStream(1), -1);
        due.is("3: deliveredPackets(0)", bus.deliveredPackets(0), 1);
        due.is("3: runRounds(1)", bus.runRounds(1), 2);
        due.is("3: scheduleBits()", bus.scheduleBits(), 14);
    }

    private static void deadHost() {
        FloodBus bus = new FloodBus();
        append(bus, 50, 59, 48, 49, 53);
        due.is("4: loadNetwork()", bus.loadNetwork(), 2);
        due.is("4: setAlive(0, false)", bus.setAlive(0, false), 1);
        due.is("4: runRounds(1)", bus.runRounds(1), 0);
        due.is("4: host()", bus.host(), 0);
        due.is("4: runRounds(1)", bus.runRounds(1), 0);
        due.is("4: host()", bus.host(), 1);
        due.is("4: missedSchedules(1)", bus.missedSchedules(1), 0);
    }

    private static void linkThatOccursTwice() {
        FloodBus bus = new FloodBus();
        append(bus, 51, 59, 48, 50, 53, 59, 48, 50);
        due.is("5: errorPosition()", bus.errorPosition(), 7);
        due.is("5: loadNetwork()", bus.loadNetwork(), -1003);
        due.is("5: runRounds(21)", bus.runRounds(21), -1002);
        due.is("5: runRounds(1)", bus.runRounds(1), -1003);
    }
}
