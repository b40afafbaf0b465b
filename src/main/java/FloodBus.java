import java.util.Arrays;

/**
 * A simulator for a wireless bus built on synchronous flooding.
 *
 * Every row is made in a constructor and used again, so that no call after it makes an object.
 */
public final class FloodBus {
    public static final int NONE = -1;
    public static final int INVALID_INDEX = -1001;
    public static final int INVALID_VALUE = -1002;
    public static final int INVALID_STATE = -1003;
    public static final int CAPACITY_EXCEEDED = -1004;

    private static final int MAX_NODES = 8;
    private static final int MAX_LINKS = 12;
    private static final int MAX_CHARACTERS = 61;
    private static final int MAX_STREAMS = 6;
    private static final int MAX_WAITING = 4;
    private static final int MAX_ROUNDS_A_CALL = 20;
    private static final int MAX_ROUND_NUMBER = 9999;

    /** No flood takes more than 56 slots: seven hops of at most 7 slots each, then the 7 slots of the last node. */
    private static final int MAX_SLOTS = 64;

    private static final int HEADER_BITS = 8;
    private static final int ENTRY_BITS = 3;
    private static final int BITMAP_BITS = 8;

    private static final long DIGEST_START = 1753L;

    private final Description description = new Description();
    private final Network network = new Network();
    private final Flooding latestFlood = new Flooding();
    private final StreamTable streams = new StreamTable();
    private final Schedule schedule = new Schedule();

    private int slotLimit = 3;
    private int takeoverLimit = 2;
    private int hostNode = NONE;
    private int nextRound = 0;

    public FloodBus() {
    }

    // ---- network description

    public int append(int ch) {
        if (ch < 32 || ch > 126) {
            return INVALID_VALUE;
        }
        return description.add(ch);
    }

    public int clearBuffer() {
        int before = description.length;
        description.length = 0;
        return before;
    }

    public int errorPosition() {
        return description.findError();
    }

    public int loadNetwork() {
        if (!description.isComplete()) {
            return INVALID_STATE;
        }
        network.startAnew(description.nodeCount, description.links);
        description.length = 0;
        latestFlood.forget();
        streams.count = 0;
        schedule.size = 0;
        hostNode = 0;
        nextRound = 0;
        return network.count;
    }

    // ---- settings

    public int setTransmissionLimit(int count) {
        if (count < 1 || count > 4) {
            return INVALID_VALUE;
        }
        int before = latestFlood.transmissionLimit;
        latestFlood.transmissionLimit = count;
        return before;
    }

    public int setCaptureMargin(int margin) {
        if (margin < 1 || margin > 9) {
            return INVALID_VALUE;
        }
        int before = latestFlood.captureMargin;
        latestFlood.captureMargin = margin;
        return before;
    }

    public int setSlotLimit(int slots) {
        if (slots < 0 || slots > 6) {
            return INVALID_VALUE;
        }
        int before = slotLimit;
        slotLimit = slots;
        return before;
    }

    public int setTakeoverLimit(int count) {
        if (count < 1 || count > 9) {
            return INVALID_VALUE;
        }
        int before = takeoverLimit;
        takeoverLimit = count;
        return before;
    }

    public int setAlive(int node, boolean alive) {
        if (!network.has(node)) {
            return INVALID_INDEX;
        }
        boolean before = network.alive[node];
        if (before != alive) {
            network.alive[node] = alive;
            network.missed[node] = 0;
        }
        return before ? 1 : 0;
    }

    // ---- floods

    public int flood(int initiators) {
        if (initiators <= 0 || (initiators >> network.count) != 0) {
            return INVALID_VALUE;
        }
        if (!network.areAlive(initiators)) {
            return INVALID_STATE;
        }
        latestFlood.run(network, initiators);
        return latestFlood.countHolders();
    }

    public int packetAt(int node) {
        return network.has(node) ? latestFlood.packet[node] : INVALID_INDEX;
    }

    public int hopCount(int node) {
        return network.has(node) ? latestFlood.hops[node] : INVALID_INDEX;
    }

    public int floodLength() {
        return latestFlood.length;
    }

    // ---- streams

    public int addStream(int source, int period, int start) {
        if (!network.has(source)) {
            return INVALID_INDEX;
        }
        if (period < 1 || period > 9 || start < 0 || start > 99) {
            return INVALID_VALUE;
        }
        return streams.add(source, period, start);
    }

    public int removeStream(int stream) {
        if (!streams.has(stream)) {
            return INVALID_INDEX;
        }
        streams.remove(stream);
        schedule.size = 0;
        return streams.count;
    }

    public int waitingPackets(int stream) {
        return streams.has(stream) ? streams.rows[stream].waiting : INVALID_INDEX;
    }

    public int deliveredPackets(int stream) {
        return streams.has(stream) ? streams.rows[stream].delivered : INVALID_INDEX;
    }

    public int lostPackets(int stream) {
        return streams.has(stream) ? streams.rows[stream].lost : INVALID_INDEX;
    }

    // ---- rounds

    public int runRounds(int count) {
        if (count < 1 || count > MAX_ROUNDS_A_CALL) {
            return INVALID_VALUE;
        }
        if (!network.has(hostNode)) {
            return INVALID_STATE;
        }
        if (nextRound + count > MAX_ROUND_NUMBER) {
            return CAPACITY_EXCEEDED;
        }
        int delivered = 0;
        for (int i = 0; i < count; i++) {
            delivered += runOneRound();
        }
        return delivered;
    }

    public int scheduledStream(int entry) {
        return entry >= 0 && entry < schedule.size ? schedule.entries[entry] : NONE;
    }

    public int scheduleBits() {
        return schedule.encodedSize(streams);
    }

    public int host() {
        return hostNode;
    }

    public int missedSchedules(int node) {
        return network.has(node) ? network.missed[node] : INVALID_INDEX;
    }

    public int transmissions(int node) {
        return network.has(node) ? network.sent[node] : INVALID_INDEX;
    }

    public int roundNumber() {
        return nextRound;
    }

    public long digest() {
        long hash = digestNodes(DIGEST_START);
        hash = 31 * hash + latestFlood.length;
        hash = digestStreams(hash);
        for (int entry = 0; entry < schedule.size; entry++) {
            hash = 31 * hash + schedule.entries[entry];
        }
        hash = 31 * hash + schedule.encodedSize(streams);
        hash = 31 * hash + hostNode;
        hash = 31 * hash + nextRound;
        for (int i = 0; i < description.length; i++) {
            hash = 31 * hash + description.characters[i];
        }
        return 31 * hash + description.length;
    }

    // ---- the parts of the digest

    private long digestNodes(long start) {
        long hash = start;
        for (int node = 0; node < network.count; node++) {
            hash = 31 * hash + latestFlood.packet[node];
            hash = 31 * hash + latestFlood.hops[node];
            hash = 31 * hash + network.missed[node];
            hash = 31 * hash + network.sent[node];
            hash = 31 * hash + (network.alive[node] ? 1 : 0);
        }
        return hash;
    }

    private long digestStreams(long start) {
        long hash = start;
        for (int i = 0; i < streams.count; i++) {
            Stream stream = streams.rows[i];
            hash = 31 * hash + stream.waiting;
            hash = 31 * hash + stream.delivered;
            hash = 31 * hash + stream.lost;
        }
        return hash;
    }

    // ---- the steps of a round

    /** Answers how many packets were delivered. There must be a network. */
    private int runOneRound() {
        streams.generate(nextRound);
        int delivered = 0;
        if (network.alive[hostNode]) {
            schedule.build(streams, slotLimit);
            latestFlood.run(network, 1 << hostNode);
            network.noteSchedule(latestFlood);
            delivered = serveSchedule();
        } else {
            schedule.size = 0;
            network.noteNoSchedule();
            takeOver();
        }
        nextRound++;
        return delivered;
    }

    private int serveSchedule() {
        int delivered = 0;
        for (int entry = 0; entry < schedule.size; entry++) {
            Stream stream = streams.rows[schedule.entries[entry]];
            stream.removeOldest();
            // A dead node is never informed, so this asks for both.
            boolean sends = network.informed[stream.source];
            if (sends) {
                latestFlood.run(network, 1 << stream.source);
            }
            if (sends && latestFlood.packet[hostNode] != NONE) {
                stream.delivered++;
                delivered++;
            } else {
                stream.lost++;
            }
        }
        return delivered;
    }

    private void takeOver() {
        for (int node = 0; node < network.count; node++) {
            if (network.alive[node] && network.missed[node] >= takeoverLimit) {
                hostNode = node;
                network.missed[node] = 0;
                return;
            }
        }
    }

    /** The input buffer, and the reader of the network description in it. */
    private static final class Description {
        private static final int EXPECT_NODE_COUNT = 0;
        private static final int EXPECT_LINK = 1;
        private static final int EXPECT_FIRST_NODE = 2;
        private static final int EXPECT_SECOND_NODE = 3;
        private static final int EXPECT_STRENGTH = 4;
        private static final int EXPECT_LOSS_OR_LINK = 5;

        final int[] characters = new int[MAX_CHARACTERS];
        int length = 0;

        /** What the latest reading found; valid up to the character where it ended. */
        final Links links = new Links();
        int nodeCount = 0;
        private int linkCount = 0;
        private int expected = EXPECT_NODE_COUNT;
        private int firstNode = 0;
        private int secondNode = 0;

        int add(int ch) {
            if (length >= MAX_CHARACTERS) {
                return CAPACITY_EXCEEDED;
            }
            characters[length] = ch;
            length++;
            return length;
        }

        boolean isComplete() {
            return findError() == length && (expected == EXPECT_LINK || expected == EXPECT_LOSS_OR_LINK);
        }

        int findError() {
            links.clear();
            linkCount = 0;
            expected = EXPECT_NODE_COUNT;
            for (int i = 0; i < length; i++) {
                if (!accepts(characters[i])) {
                    return i;
                }
            }
            return length;
        }

        private boolean accepts(int ch) {
            switch (expected) {
                case EXPECT_NODE_COUNT:
                    return acceptsNodeCount(ch - '0');
                case EXPECT_LINK:
                    return acceptsLinkMark(ch);
                case EXPECT_FIRST_NODE:
                    return acceptsFirstNode(ch - '0');
                case EXPECT_SECOND_NODE:
                    return acceptsSecondNode(ch - '0');
                case EXPECT_STRENGTH:
                    return acceptsStrength(ch - '0');
                default:
                    return acceptsLossPeriod(ch - '0') || acceptsLinkMark(ch);
            }
        }

        private boolean acceptsNodeCount(int digit) {
            if (digit < 2 || digit > MAX_NODES) {
                return false;
            }
            nodeCount = digit;
            expected = EXPECT_LINK;
            return true;
        }

        private boolean acceptsLinkMark(int ch) {
            if (ch != ';' || linkCount >= MAX_LINKS) {
                return false;
            }
            linkCount++;
            expected = EXPECT_FIRST_NODE;
            return true;
        }

        private boolean acceptsFirstNode(int digit) {
            if (digit < 0 || digit >= nodeCount) {
                return false;
            }
            firstNode = digit;
            expected = EXPECT_SECOND_NODE;
            return true;
        }

        private boolean acceptsSecondNode(int digit) {
            if (digit <= firstNode || digit >= nodeCount || links.join(firstNode, digit)) {
                return false;
            }
            secondNode = digit;
            expected = EXPECT_STRENGTH;
            return true;
        }

        private boolean acceptsStrength(int digit) {
            if (digit < 1 || digit > 9) {
                return false;
            }
            links.setStrength(firstNode, secondNode, digit);
            expected = EXPECT_LOSS_OR_LINK;
            return true;
        }

        private boolean acceptsLossPeriod(int digit) {
            if (digit < 2 || digit > 9) {
                return false;
            }
            links.setLossPeriod(firstNode, secondNode, digit);
            expected = EXPECT_LINK;
            return true;
        }
    }

    /** The links between nodes, kept in both directions. */
    private static final class Links {
        /** 0 where there is no link. */
        private final int[][] strength = new int[MAX_NODES][MAX_NODES];
        /** 0 where the link never loses a signal. */
        private final int[][] lossPeriod = new int[MAX_NODES][MAX_NODES];

        void clear() {
            for (int node = 0; node < MAX_NODES; node++) {
                Arrays.fill(strength[node], 0);
                Arrays.fill(lossPeriod[node], 0);
            }
        }

        void copyFrom(Links other) {
            for (int node = 0; node < MAX_NODES; node++) {
                System.arraycopy(other.strength[node], 0, strength[node], 0, MAX_NODES);
                System.arraycopy(other.lossPeriod[node], 0, lossPeriod[node], 0, MAX_NODES);
            }
        }

        boolean join(int one, int other) {
            return strength[one][other] != 0;
        }

        void setStrength(int one, int other, int value) {
            strength[one][other] = value;
            strength[other][one] = value;
        }

        void setLossPeriod(int one, int other, int value) {
            lossPeriod[one][other] = value;
            lossPeriod[other][one] = value;
        }

        /** The strength of what is heard over a link in a slot; 0 where nothing is. */
        int signal(int from, int to, int slot) {
            int period = lossPeriod[from][to];
            if (period > 0 && (slot + 1) % period == 0) {
                return 0;
            }
            return strength[from][to];
        }
    }

    /** The nodes with their states and counters, and the links between them. */
    private static final class Network {
        final Links links = new Links();
        int count = 0;
        final boolean[] alive = new boolean[MAX_NODES];
        final int[] missed = new int[MAX_NODES];
        final int[] sent = new int[MAX_NODES];
        /** Who received the latest schedule; kept because later floods of the round replace that flood's result. */
        final boolean[] informed = new boolean[MAX_NODES];

        void startAnew(int nodeCount, Links newLinks) {
            links.copyFrom(newLinks);
            count = nodeCount;
            for (int node = 0; node < MAX_NODES; node++) {
                alive[node] = true;
                missed[node] = 0;
                sent[node] = 0;
            }
        }

        boolean has(int node) {
            return node >= 0 && node < count;
        }

        boolean areAlive(int mask) {
            for (int node = 0; node < count; node++) {
                if ((mask >> node & 1) == 1 && !alive[node]) {
                    return false;
                }
            }
            return true;
        }

        void noteSchedule(Flooding scheduleFlood) {
            for (int node = 0; node < count; node++) {
                informed[node] = scheduleFlood.packet[node] != NONE;
                if (informed[node]) {
                    missed[node] = 0;
                } else if (alive[node]) {
                    missed[node]++;
                }
            }
        }

        void noteNoSchedule() {
            for (int node = 0; node < count; node++) {
                if (alive[node]) {
                    missed[node]++;
                }
            }
        }
    }

    /** The latest flood, and how it is run. */
    private static final class Flooding {
        private final int[] levels = new int[MAX_NODES];
        final int[] packet = new int[MAX_NODES];
        final int[] hops = new int[MAX_NODES];
        int length = 0;
        int transmissionLimit = 2;
        int captureMargin = 3;

        void forget() {
            Arrays.fill(packet, NONE);
            Arrays.fill(hops, NONE);
            length = 0;
        }

        /** Every initiator must be an alive node. */
        void run(Network network, int initiators) {
            forget();
            for (int node = 0; node < network.count; node++) {
                if ((initiators >> node & 1) == 1) {
                    hold(network, node, node, 0);
                }
            }
            // Receptions lengthen the flood while it runs.
            for (int slot = 0; slot < MAX_SLOTS && slot < length; slot++) {
                runSlot(network, slot);
            }
        }

        int countHolders() {
            int holders = 0;
            for (int node = 0; node < MAX_NODES; node++) {
                if (packet[node] != NONE) {
                    holders++;
                }
            }
            return holders;
        }

        /** A holder always makes all its transmissions, so they are counted at once. */
        private void hold(Network network, int node, int heldPacket, int hopsOfNode) {
            packet[node] = heldPacket;
            hops[node] = hopsOfNode;
            network.sent[node] += transmissionLimit;
            length = Math.max(length, hopsOfNode + 2 * transmissionLimit - 1);
        }

        /** Who receives in this slot sends only from the next one on, so the order of the nodes is free. */
        private void runSlot(Network network, int slot) {
            for (int node = 0; node < network.count; node++) {
                if (network.alive[node] && packet[node] == NONE) {
                    measureLevels(network.links, node, slot);
                    int captured = capturedPacket();
                    if (captured != NONE) {
                        hold(network, node, captured, slot + 1);
                    }
                }
            }
        }

        private void measureLevels(Links links, int node, int slot) {
            Arrays.fill(levels, 0);
            for (int sender = 0; sender < MAX_NODES; sender++) {
                if (transmits(sender, slot)) {
                    int carried = packet[sender];
                    levels[carried] = Math.max(levels[carried], links.signal(sender, node, slot));
                }
            }
        }

        private boolean transmits(int node, int slot) {
            if (packet[node] == NONE) {
                return false;
            }
            int sinceFirst = slot - hops[node];
            return sinceFirst >= 0 && sinceFirst % 2 == 0 && sinceFirst / 2 < transmissionLimit;
        }

        private int capturedPacket() {
            int strongest = NONE;
            int greatest = 0;
            int second = 0;
            for (int candidate = 0; candidate < MAX_NODES; candidate++) {
                if (levels[candidate] > greatest) {
                    second = greatest;
                    greatest = levels[candidate];
                    strongest = candidate;
                } else if (levels[candidate] > second) {
                    second = levels[candidate];
                }
            }
            // The margin counts only against another packet, not against silence.
            boolean alone = second == 0;
            return alone || greatest - second >= captureMargin ? strongest : NONE;
        }
    }

    /** One stream with its waiting packets, of which only the rounds of generation matter. */
    private static final class Stream {
        private final int[] generatedIn = new int[MAX_WAITING];
        int source = 0;
        private int period = 1;
        private int start = 0;
        int waiting = 0;
        int delivered = 0;
        int lost = 0;

        void startAnew(int newSource, int newPeriod, int newStart) {
            source = newSource;
            period = newPeriod;
            start = newStart;
            waiting = 0;
            delivered = 0;
            lost = 0;
        }

        void generate(int round) {
            if (round < start || period < 1 || (round - start) % period != 0) {
                return;
            }
            if (waiting >= MAX_WAITING) {
                lost++;
                return;
            }
            generatedIn[waiting] = round;
            waiting++;
        }

        int oldestRound() {
            return generatedIn[0];
        }

        void removeOldest() {
            for (int i = 1; i < waiting; i++) {
                generatedIn[i - 1] = generatedIn[i];
            }
            if (waiting > 0) {
                waiting--;
            }
        }
    }

    /** The streams in the order of their indices; the rows behind the count wait for use. */
    private static final class StreamTable {
        final Stream[] rows = new Stream[MAX_STREAMS];
        int count = 0;

        StreamTable() {
            for (int i = 0; i < MAX_STREAMS; i++) {
                rows[i] = new Stream();
            }
        }

        boolean has(int stream) {
            return stream >= 0 && stream < count;
        }

        int add(int source, int period, int start) {
            if (count >= MAX_STREAMS) {
                return CAPACITY_EXCEEDED;
            }
            rows[count].startAnew(source, period, start);
            count++;
            return count - 1;
        }

        /** The removed row goes behind the others, so that it can be used again. */
        void remove(int stream) {
            Stream removed = rows[stream];
            for (int i = stream + 1; i < count; i++) {
                rows[i - 1] = rows[i];
            }
            count--;
            rows[count] = removed;
        }

        void generate(int round) {
            for (int i = 0; i < count; i++) {
                rows[i].generate(round);
            }
        }
    }

    /** The schedule of the latest round. */
    private static final class Schedule {
        final int[] entries = new int[MAX_STREAMS];
        int size = 0;

        void build(StreamTable streams, int limit) {
            size = 0;
            for (int i = 0; i < streams.count; i++) {
                if (streams.rows[i].waiting > 0) {
                    insert(streams, i);
                }
            }
            size = Math.min(size, limit);
        }

        /** Equal rounds keep the order of insertion, which is that of the stream indices. */
        private void insert(StreamTable streams, int stream) {
            int round = streams.rows[stream].oldestRound();
            int place = size;
            while (place > 0 && streams.rows[entries[place - 1]].oldestRound() > round) {
                entries[place] = entries[place - 1];
                place--;
            }
            entries[place] = stream;
            size++;
        }

        int encodedSize(StreamTable streams) {
            int listBits = ENTRY_BITS * size;
            return HEADER_BITS + (hasRepeatedSource(streams) ? listBits : Math.min(listBits, BITMAP_BITS));
        }

        private boolean hasRepeatedSource(StreamTable streams) {
            int seen = 0;
            for (int entry = 0; entry < size; entry++) {
                int bit = 1 << streams.rows[entries[entry]].source;
                if ((seen & bit) != 0) {
                    return true;
                }
                seen |= bit;
            }
            return false;
        }
    }
}
