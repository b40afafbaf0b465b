import java.math.BigInteger;
import java.util.ArrayList;
import java.util.List;

/** Promise 27, sentence by sentence and value by value. */
final class DigestSentences extends SentenceGroup {
    DigestSentences(Sentences doc) {
        super(doc);
    }

    @Override
    void ask() {
        inPromise(27);
        holds("Computes a hash of the whole state.", this::wholeState);
        holds("The hash starts at 1753.", this::startsAt1753);
        holds("For each value v of the following list, in order, the hash becomes 31 * hash + v (as a long that wraps around)", this::wrapsAround);
        holds("for each node packetAt, hopCount, missedSchedules, transmissions and 1 or 0 for alive or dead", this::valuesOfNodes);
        holds("floodLength", this::lengthOfTheFlood);
        holds("for each stream waitingPackets, deliveredPackets, lostPackets", this::valuesOfStreams);
        holds("for each entry of the schedule scheduledStream", this::entries);
        holds("scheduleBits", this::sizeOfTheSchedule);
        holds("host", this::hostAndNone);
        holds("roundNumber", this::theRoundNumber);
        holds("the code of each character of the buffer", this::codesOfTheBuffer);
        holds("the length of the buffer.", this::lengthOfTheBuffer);
        holds("Returns the hash.", this::asksWithoutAChange);
    }

    private static BigInteger exact(long... values) {
        BigInteger hash = BigInteger.valueOf(1753);
        for (long value : values) {
            hash = hash.multiply(BigInteger.valueOf(31)).add(BigInteger.valueOf(value));
        }
        return hash;
    }

    /** BigInteger.longValue keeps the low 64 bits, which is what wrapping around leaves. */
    private static long hash(long... values) {
        return exact(values).longValue();
    }

    private static long[] joined(long[]... parts) {
        List<Long> all = new ArrayList<>();
        for (long[] part : parts) {
            for (long value : part) {
                all.add(value);
            }
        }
        return all.stream().mapToLong(Long::longValue).toArray();
    }

    private static long[] some(long... values) {
        return values;
    }

    private void wholeState() {
        FloodBus bus = loaded("3;015");
        bus.addStream(1, 1, 0);
        bus.addStream(2, 1, 1);
        bus.runRounds(2);
        bus.setAlive(1, false);
        bus.append(32);
        // Floods: two schedules and two packets of stream 0; node 2 has no link and loses the packet of round 1.
        is("digest()", bus.digest(), hash(joined(some(1, 1, 0, 8, 1), some(1, 0, 0, 8, 0), some(-1, -1, 2, 0, 1), some(4),
            some(0, 2, 0), some(0, 0, 1), some(0, 1), some(14), some(0), some(2), some(32), some(1))));
    }

    private void startsAt1753() {
        // No network, no stream, an empty schedule, an empty buffer: five values.
        is("digest() of a new bus", new FloodBus().digest(), hash(0, 8, -1, 0, 0));
        // 1753 * 31^5 + 8 * 31^3 - 31^2
        is("digest() of a new bus, counted by hand", new FloodBus().digest(), 50_187_139_070L);
    }

    private void wrapsAround() {
        FloodBus bus = loaded("8");
        long[] node = some(-1, -1, 0, 0, 1);
        long[] values = joined(node, node, node, node, node, node, node, node, some(0, 8, 0, 0, 0));
        is("1 if the exact hash is too great for a long", exact(values).bitLength() > 63 ? 1 : 0, 1);
        is("digest() of eight nodes", bus.digest(), hash(values));
        FloodBus full = Due.typed(TWELVE_LINKS);
        long[] codes = TWELVE_LINKS.chars().asLongStream().toArray();
        is("digest() of a full buffer", full.digest(), hash(joined(some(0, 8, -1, 0), codes, some(61))));
        int negative = 0;
        int positive = 0;
        for (int length = 0; length < 61; length++) {
            long digest = Due.typed(TWELVE_LINKS.substring(0, length)).digest();
            negative += digest < 0 ? 1 : 0;
            positive += digest > 0 ? 1 : 0;
        }
        is("1 if hashes of both signs come", negative > 0 && positive > 0 ? 1 : 0, 1);
    }

    private void valuesOfNodes() {
        FloodBus bus = loaded("2;015");
        is("digest() before a flood", bus.digest(), hash(-1, -1, 0, 0, 1, -1, -1, 0, 0, 1, 0, 8, 0, 0, 0));
        bus.flood(2);
        is("digest() after flood(2)", bus.digest(), hash(1, 1, 0, 2, 1, 1, 0, 0, 2, 1, 4, 8, 0, 0, 0));
        bus.setAlive(1, false);
        is("digest() with node 1 dead", bus.digest(), hash(1, 1, 0, 2, 1, 1, 0, 0, 2, 0, 4, 8, 0, 0, 0));
        bus.setAlive(1, true);
        bus.setAlive(0, false);
        bus.runRounds(1);
        is("digest() with a missed schedule", bus.digest(), hash(1, 1, 0, 2, 0, 1, 0, 1, 2, 1, 4, 8, 0, 1, 0));
    }

    private void lengthOfTheFlood() {
        FloodBus bus = loaded("2");
        is("digest() before a flood", bus.digest(), hash(-1, -1, 0, 0, 1, -1, -1, 0, 0, 1, 0, 8, 0, 0, 0));
        bus.setTransmissionLimit(4);
        bus.flood(1);
        is("digest() of seven slots", bus.digest(), hash(0, 0, 0, 4, 1, -1, -1, 0, 0, 1, 7, 8, 0, 0, 0));
    }

    private void valuesOfStreams() {
        FloodBus bus = loaded("2");
        bus.setSlotLimit(0);
        bus.addStream(0, 1, 0);
        bus.addStream(1, 2, 0);
        is("digest() of new streams", bus.digest(), hash(-1, -1, 0, 0, 1, -1, -1, 0, 0, 1, 0, 0, 0, 0, 0, 0, 0, 8, 0, 0, 0));
        bus.runRounds(6);
        is("digest() with packets", bus.digest(), hash(0, 0, 0, 12, 1, -1, -1, 6, 0, 1, 3, 4, 0, 2, 3, 0, 0, 8, 0, 6, 0));
        bus.removeStream(0);
        is("digest() without stream 0", bus.digest(), hash(0, 0, 0, 12, 1, -1, -1, 6, 0, 1, 3, 3, 0, 0, 8, 0, 6, 0));
        bus.removeStream(0);
        is("digest() without a stream", bus.digest(), hash(0, 0, 0, 12, 1, -1, -1, 6, 0, 1, 3, 8, 0, 6, 0));
    }

    private void entries() {
        FloodBus bus = loaded("2");
        bus.addStream(0, 9, 1);
        bus.addStream(0, 9, 0);
        is("digest() before the first round", bus.digest(), hash(-1, -1, 0, 0, 1, -1, -1, 0, 0, 1, 0, 0, 0, 0, 0, 0, 0, 8, 0, 0, 0));
        bus.runRounds(1);
        is("digest() of one entry", bus.digest(), hash(0, 0, 0, 4, 1, -1, -1, 1, 0, 1, 3, 0, 0, 0, 0, 1, 0, 1, 11, 0, 1, 0));
        bus.runRounds(2);
        is("digest() of an empty schedule", bus.digest(), hash(0, 0, 0, 10, 1, -1, -1, 3, 0, 1, 3, 0, 1, 0, 0, 1, 0, 8, 0, 3, 0));
    }

    private void sizeOfTheSchedule() {
        FloodBus three = loaded("3");
        for (int node = 0; node < 3; node++) {
            three.addStream(node, 9, 0);
        }
        three.runRounds(1);
        is("digest() of three sources", three.digest(), hash(joined(some(0, 0, 0, 4, 1), some(-1, -1, 1, 0, 1), some(-1, -1, 1, 0, 1), some(3),
            some(0, 1, 0), some(0, 0, 1), some(0, 0, 1), some(0, 1, 2), some(16), some(0), some(1), some(0))));
    }

    private void hostAndNone() {
        is("digest() without a network", new FloodBus().digest(), hash(0, 8, NONE, 0, 0));
        FloodBus bus = loaded("2");
        bus.setTakeoverLimit(1);
        bus.setAlive(0, false);
        bus.runRounds(1);
        is("digest() under host 1", bus.digest(), hash(-1, -1, 0, 0, 0, -1, -1, 0, 0, 1, 0, 8, 1, 1, 0));
    }

    private void theRoundNumber() {
        FloodBus bus = loaded("2");
        bus.setAlive(0, false);
        bus.setAlive(1, false);
        for (int round = 0; round <= 60; round += 20) {
            is("digest() in round " + round, bus.digest(), hash(-1, -1, 0, 0, 0, -1, -1, 0, 0, 0, 0, 8, 0, round, 0));
            bus.runRounds(20);
        }
        FloodBus late = late();
        late.runRounds(19);
        is("digest() in round 9999", late.digest(), hash(0, 0, 0, 19998, 1, -1, -1, 9999, 0, 1, 3, 8, 0, 9999, 0));
    }

    private void codesOfTheBuffer() {
        for (int ch = 32; ch <= 126; ch++) {
            FloodBus bus = new FloodBus();
            bus.append(ch);
            is("digest() with character " + ch, bus.digest(), hash(0, 8, -1, 0, ch, 1));
        }
        FloodBus order = Due.typed("ab");
        is("digest() of 'ab'", order.digest(), hash(0, 8, -1, 0, 97, 98, 2));
        order.append(31);
        is("digest() after a refused character", order.digest(), hash(0, 8, -1, 0, 97, 98, 2));
    }

    private void lengthOfTheBuffer() {
        FloodBus bus = new FloodBus();
        is("digest() of an empty buffer", bus.digest(), hash(0, 8, -1, 0, 0));
        Due.type(bus, "2");
        is("digest() of one character", bus.digest(), hash(0, 8, -1, 0, 50, 1));
        bus.loadNetwork();
        is("digest() after loadNetwork()", bus.digest(), hash(-1, -1, 0, 0, 1, -1, -1, 0, 0, 1, 0, 8, 0, 0, 0));
        Due.type(bus, "xyz");
        bus.clearBuffer();
        is("digest() after clearBuffer()", bus.digest(), hash(-1, -1, 0, 0, 1, -1, -1, 0, 0, 1, 0, 8, 0, 0, 0));
    }

    private void asksWithoutAChange() {
        FloodBus bus = busy();
        long first = bus.digest();
        is("digest() again", bus.digest(), first);
        same("digest() asked twice", bus, busy());
        // The limits are no part of the list.
        FloodBus limits = busy();
        limits.setTransmissionLimit(4);
        limits.setCaptureMargin(9);
        limits.setSlotLimit(6);
        limits.setTakeoverLimit(9);
        is("digest() after the setters", limits.digest(), first);
    }
}
