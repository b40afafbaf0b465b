import java.util.ArrayList;
import java.util.List;

/** Promise 27: the digest, against the document's list of values. */
public final class DigestTest {
    private static final Due due = new Due("DigestTest");

    public static void main(String[] args) {
        withoutANetwork();
        byHand();
        eachStep();
        askingChangesNothing();
        limitsAreNotPartOfIt();
        due.end();
    }

    private static long hash(long... values) {
        long hash = 1753;
        for (long value : values) {
            hash = 31 * hash + value;
        }
        return hash;
    }

    private static void withoutANetwork() {
        FloodBus bus = new FloodBus();
        due.is("digest() of a new object", bus.digest(), hash(0, 8, -1, 0, 0));
        bus.append(51);
        bus.append(126);
        due.is("digest() with a buffer", bus.digest(), hash(0, 8, -1, 0, 51, 126, 2));
        bus.clearBuffer();
        due.is("digest() with the buffer cleared", bus.digest(), hash(0, 8, -1, 0, 0));
    }

    private static void byHand() {
        FloodBus bus = Due.loaded("3;015");
        due.is("digest() of a network", bus.digest(),
            hash(-1, -1, 0, 0, 1, -1, -1, 0, 0, 1, -1, -1, 0, 0, 1, 0, 8, 0, 0, 0));
        bus.addStream(1, 1, 0);
        bus.addStream(2, 1, 1);
        bus.runRounds(2);
        bus.setAlive(1, false);
        bus.append(32);
        due.is("digest() after rounds", bus.digest(),
            hash(1, 1, 0, 8, 1, 1, 0, 0, 8, 0, -1, -1, 2, 0, 1, 4, 0, 2, 0, 0, 0, 1, 0, 1, 14, 0, 2, 32, 1));
    }

    /** What the other methods answer, in the document's order. */
    private static long composed(FloodBus bus, int nodes, boolean[] alive, int streams, int entries, String buffer) {
        List<Long> values = new ArrayList<>();
        for (int node = 0; node < nodes; node++) {
            values.add((long) bus.packetAt(node));
            values.add((long) bus.hopCount(node));
            values.add((long) bus.missedSchedules(node));
            values.add((long) bus.transmissions(node));
            values.add(alive[node] ? 1L : 0L);
        }
        values.add((long) bus.floodLength());
        for (int stream = 0; stream < streams; stream++) {
            values.add((long) bus.waitingPackets(stream));
            values.add((long) bus.deliveredPackets(stream));
            values.add((long) bus.lostPackets(stream));
        }
        for (int entry = 0; entry < entries; entry++) {
            values.add((long) bus.scheduledStream(entry));
        }
        values.add((long) bus.scheduleBits());
        values.add((long) bus.host());
        values.add((long) bus.roundNumber());
        for (int i = 0; i < buffer.length(); i++) {
            values.add((long) buffer.charAt(i));
        }
        values.add((long) buffer.length());
        return hash(values.stream().mapToLong(Long::longValue).toArray());
    }

    private static void eachStep() {
        FloodBus bus = Due.loaded("5;015;125;2353;345");
        boolean[] alive = {true, true, true, true, true};
        due.is("digest() loaded", bus.digest(), composed(bus, 5, alive, 0, 0, ""));
        bus.flood(17);
        due.is("digest() after flood(17)", bus.digest(), composed(bus, 5, alive, 0, 0, ""));
        bus.addStream(4, 1, 0);
        bus.addStream(1, 2, 0);
        bus.addStream(0, 1, 0);
        bus.addStream(3, 1, 0);
        due.is("digest() after addStream", bus.digest(), composed(bus, 5, alive, 4, 0, ""));
        bus.runRounds(5);
        due.is("digest() after runRounds(5)", bus.digest(), composed(bus, 5, alive, 4, 3, ""));
        bus.setSlotLimit(4);
        bus.runRounds(1);
        due.is("digest() with four entries", bus.digest(), composed(bus, 5, alive, 4, 4, ""));
        bus.setAlive(2, false);
        bus.setAlive(0, false);
        alive[2] = false;
        alive[0] = false;
        bus.runRounds(3);
        Due.type(bus, "hello;");
        due.is("digest() after a takeover", bus.digest(), composed(bus, 5, alive, 4, 4, "hello;"));
        bus.removeStream(1);
        due.is("digest() after removeStream(1)", bus.digest(), composed(bus, 5, alive, 3, 0, "hello;"));
    }

    private static void askingChangesNothing() {
        FloodBus bus = Due.loaded("3;015;125");
        bus.addStream(1, 1, 0);
        bus.runRounds(2);
        Due.type(bus, "3;01");
        long before = bus.digest();
        bus.errorPosition();
        bus.packetAt(0);
        bus.hopCount(0);
        bus.floodLength();
        bus.waitingPackets(0);
        bus.scheduledStream(0);
        bus.scheduleBits();
        bus.host();
        bus.roundNumber();
        due.is("digest() after questions", bus.digest(), before);
        due.is("flood(4) over the same links", bus.flood(4), 3);
    }

    private static void limitsAreNotPartOfIt() {
        FloodBus bus = Due.loaded("3;015;125");
        long before = bus.digest();
        bus.setTransmissionLimit(4);
        bus.setCaptureMargin(9);
        bus.setSlotLimit(6);
        bus.setTakeoverLimit(9);
        due.is("digest() after the setters", bus.digest(), before);
    }
}
