import java.util.ArrayDeque;
import java.util.ArrayList;
import java.util.Comparator;
import java.util.Deque;
import java.util.HashMap;
import java.util.List;
import java.util.Map;
import java.util.TreeMap;
import java.util.regex.Matcher;
import java.util.regex.Pattern;

/**
 * The document once more, in another way than the class: with the library's containers, each transmission written
 * down as an event, and nothing counted ahead. ModelTest holds the two against each other.
 */
final class Model {
    private static final int NONE = -1;
    private static final int INDEX = -1001;
    private static final int VALUE = -1002;
    private static final int STATE = -1003;
    private static final int FULL = -1004;

    private record Link(int strength, int period) {
    }

    private static final class Node {
        boolean alive = true;
        int missed = 0;
        int sent = 0;
        int packet = NONE;
        int hops = NONE;
        boolean gotSchedule = false;
    }

    private static final class Source {
        final int node;
        final int period;
        final int start;
        final Deque<Integer> waiting = new ArrayDeque<>();
        int delivered = 0;
        int lost = 0;

        Source(int node, int period, int start) {
            this.node = node;
            this.period = period;
            this.start = start;
        }
    }

    private String buffer = "";
    private final List<Node> nodes = new ArrayList<>();
    private final Map<String, Link> links = new HashMap<>();
    private final List<Source> streams = new ArrayList<>();
    private List<Integer> schedule = new ArrayList<>();
    private int lastSlot = -1;
    private int transmissionLimit = 2;
    private int captureMargin = 3;
    private int slotLimit = 3;
    private int takeoverLimit = 2;
    private int host = NONE;
    private int round = 0;

    private boolean isNode(int node) {
        return 0 <= node && node < nodes.size();
    }

    private boolean isStream(int stream) {
        return 0 <= stream && stream < streams.size();
    }

    int append(int ch) {
        if (!(32 <= ch && ch <= 126)) {
            return VALUE;
        }
        if (buffer.length() == 61) {
            return FULL;
        }
        buffer += (char) ch;
        return buffer.length();
    }

    int clearBuffer() {
        int length = buffer.length();
        buffer = "";
        return length;
    }

    /** Asks of each prefix whether some text could go on from it within the rules for single characters. */
    int errorPosition() {
        for (int length = 1; length <= buffer.length(); length++) {
            if (!isPrefix(buffer.substring(0, length))) {
                return length - 1;
            }
        }
        return buffer.length();
    }

    private static boolean isPrefix(String text) {
        if (!text.matches("[2-8](;\\d\\d[1-9][2-9]?)*(;(\\d\\d?)?)?")) {
            return false;
        }
        int count = text.charAt(0) - '0';
        String[] parts = text.split(";", -1);
        if (parts.length - 1 > 12) {
            return false;
        }
        List<String> pairs = new ArrayList<>();
        for (int i = 1; i < parts.length; i++) {
            String part = parts[i];
            if (part.length() >= 1 && part.charAt(0) - '0' >= count) {
                return false;
            }
            if (part.length() >= 2) {
                String pair = part.substring(0, 2);
                if (part.charAt(1) <= part.charAt(0) || part.charAt(1) - '0' >= count || pairs.contains(pair)) {
                    return false;
                }
                pairs.add(pair);
            }
        }
        return true;
    }

    int loadNetwork() {
        if (errorPosition() != buffer.length() || !buffer.matches("[2-8](;\\d\\d[1-9][2-9]?)*")) {
            return STATE;
        }
        nodes.clear();
        links.clear();
        streams.clear();
        schedule = new ArrayList<>();
        lastSlot = -1;
        host = 0;
        round = 0;
        for (int i = 0; i < buffer.charAt(0) - '0'; i++) {
            nodes.add(new Node());
        }
        Matcher link = Pattern.compile(";(\\d)(\\d)(\\d)(\\d?)").matcher(buffer);
        while (link.find()) {
            int period = link.group(4).isEmpty() ? 0 : Integer.parseInt(link.group(4));
            Link made = new Link(Integer.parseInt(link.group(3)), period);
            links.put(link.group(1) + link.group(2), made);
            links.put(link.group(2) + link.group(1), made);
        }
        buffer = "";
        return nodes.size();
    }

    int setTransmissionLimit(int count) {
        int before = transmissionLimit;
        if (count < 1 || count > 4) {
            return VALUE;
        }
        transmissionLimit = count;
        return before;
    }

    int setCaptureMargin(int margin) {
        int before = captureMargin;
        if (margin < 1 || margin > 9) {
            return VALUE;
        }
        captureMargin = margin;
        return before;
    }

    int setSlotLimit(int slots) {
        int before = slotLimit;
        if (slots < 0 || slots > 6) {
            return VALUE;
        }
        slotLimit = slots;
        return before;
    }

    int setTakeoverLimit(int count) {
        int before = takeoverLimit;
        if (count < 1 || count > 9) {
            return VALUE;
        }
        takeoverLimit = count;
        return before;
    }

    int setAlive(int node, boolean alive) {
        if (!isNode(node)) {
            return INDEX;
        }
        Node it = nodes.get(node);
        int before = it.alive ? 1 : 0;
        if (it.alive != alive) {
            it.missed = 0;
        }
        it.alive = alive;
        return before;
    }

    int flood(int initiators) {
        if (initiators <= 0) {
            return VALUE;
        }
        List<Integer> starters = new ArrayList<>();
        boolean dead = false;
        for (int bit = 0; bit < 31; bit++) {
            if ((initiators & (1 << bit)) != 0) {
                if (!isNode(bit)) {
                    return VALUE;
                }
                dead |= !nodes.get(bit).alive;
                starters.add(bit);
            }
        }
        if (dead) {
            return STATE;
        }
        spread(starters);
        return (int) nodes.stream().filter(node -> node.packet != NONE).count();
    }

    /** Keeps a plan of who transmits when, and goes through it slot by slot until it is used up. */
    private void spread(List<Integer> starters) {
        for (Node node : nodes) {
            node.packet = NONE;
            node.hops = NONE;
        }
        TreeMap<Integer, List<Integer>> plan = new TreeMap<>();
        for (int starter : starters) {
            take(plan, starter, starter, 0);
        }
        while (!plan.isEmpty()) {
            Map.Entry<Integer, List<Integer>> next = plan.pollFirstEntry();
            int slot = next.getKey();
            lastSlot = slot;
            Map<Integer, Integer> received = new TreeMap<>();
            for (int node = 0; node < nodes.size(); node++) {
                if (nodes.get(node).alive && nodes.get(node).packet == NONE) {
                    int packet = heard(node, slot, next.getValue());
                    if (packet != NONE) {
                        received.put(node, packet);
                    }
                }
            }
            for (int sender : next.getValue()) {
                nodes.get(sender).sent++;
            }
            received.forEach((node, packet) -> take(plan, node, packet, slot + 1));
        }
    }

    private void take(TreeMap<Integer, List<Integer>> plan, int node, int packet, int firstSlot) {
        nodes.get(node).packet = packet;
        nodes.get(node).hops = firstSlot;
        for (int i = 0; i < transmissionLimit; i++) {
            plan.computeIfAbsent(firstSlot + 2 * i, key -> new ArrayList<>()).add(node);
        }
    }

    private int heard(int node, int slot, List<Integer> senders) {
        Map<Integer, Integer> level = new TreeMap<>();
        for (int sender : senders) {
            Link link = links.get(sender + "" + node);
            if (link != null && (link.period == 0 || (slot + 1) % link.period != 0)) {
                level.merge(nodes.get(sender).packet, link.strength, Math::max);
            }
        }
        for (int packet : level.keySet()) {
            boolean captures = true;
            for (int other : level.keySet()) {
                captures &= other == packet || level.get(packet) - level.get(other) >= captureMargin;
            }
            if (captures) {
                return packet;
            }
        }
        return NONE;
    }

    int packetAt(int node) {
        return isNode(node) ? nodes.get(node).packet : INDEX;
    }

    int hopCount(int node) {
        return isNode(node) ? nodes.get(node).hops : INDEX;
    }

    int floodLength() {
        return 1 + lastSlot;
    }

    int addStream(int source, int period, int start) {
        if (!isNode(source)) {
            return INDEX;
        }
        if (period < 1 || period > 9 || start < 0 || start > 99) {
            return VALUE;
        }
        if (streams.size() == 6) {
            return FULL;
        }
        streams.add(new Source(source, period, start));
        return streams.size() - 1;
    }

    int removeStream(int stream) {
        if (!isStream(stream)) {
            return INDEX;
        }
        streams.remove(stream);
        schedule = new ArrayList<>();
        return streams.size();
    }

    int waitingPackets(int stream) {
        return isStream(stream) ? streams.get(stream).waiting.size() : INDEX;
    }

    int deliveredPackets(int stream) {
        return isStream(stream) ? streams.get(stream).delivered : INDEX;
    }

    int lostPackets(int stream) {
        return isStream(stream) ? streams.get(stream).lost : INDEX;
    }

    int runRounds(int count) {
        if (count < 1 || count > 20) {
            return VALUE;
        }
        if (nodes.isEmpty()) {
            return STATE;
        }
        if (round + count > 9999) {
            return FULL;
        }
        int before = streams.stream().mapToInt(stream -> stream.delivered).sum();
        for (int i = 0; i < count; i++) {
            stepGenerate();
            stepSchedule();
            stepServe();
            stepTakeover();
            round++;
        }
        return streams.stream().mapToInt(stream -> stream.delivered).sum() - before;
    }

    private void stepGenerate() {
        for (Source stream : streams) {
            for (int r = stream.start; r <= round; r += stream.period) {
                if (r == round) {
                    if (stream.waiting.size() == 4) {
                        stream.lost++;
                    } else {
                        stream.waiting.addLast(round);
                    }
                }
            }
        }
    }

    private void stepSchedule() {
        schedule = new ArrayList<>();
        nodes.forEach(node -> node.gotSchedule = false);
        if (nodes.get(host).alive) {
            for (int i = 0; i < streams.size(); i++) {
                if (!streams.get(i).waiting.isEmpty()) {
                    schedule.add(i);
                }
            }
            schedule.sort(Comparator.comparing((Integer i) -> streams.get(i).waiting.peekFirst()).thenComparing(i -> i));
            schedule = new ArrayList<>(schedule.subList(0, Math.min(slotLimit, schedule.size())));
            spread(List.of(host));
            nodes.forEach(node -> node.gotSchedule = node.packet == host);
        }
        for (Node node : nodes) {
            if (node.alive) {
                node.missed = node.gotSchedule ? 0 : node.missed + 1;
            }
        }
    }

    private void stepServe() {
        for (int entry : schedule) {
            Source stream = streams.get(entry);
            stream.waiting.removeFirst();
            Node source = nodes.get(stream.node);
            boolean arrives = false;
            if (source.alive && source.gotSchedule) {
                spread(List.of(stream.node));
                arrives = nodes.get(host).packet == stream.node;
            }
            if (stream.node == host || arrives) {
                stream.delivered++;
            } else {
                stream.lost++;
            }
        }
    }

    private void stepTakeover() {
        if (nodes.get(host).alive) {
            return;
        }
        for (int i = nodes.size() - 1; i >= 0; i--) {
            if (nodes.get(i).alive && nodes.get(i).missed >= takeoverLimit) {
                host = i;
            }
        }
        if (nodes.get(host).alive) {
            nodes.get(host).missed = 0;
        }
    }

    int scheduledStream(int entry) {
        return 0 <= entry && entry < schedule.size() ? schedule.get(entry) : NONE;
    }

    int scheduleBits() {
        long sources = schedule.stream().map(entry -> streams.get(entry).node).distinct().count();
        int list = 3 * schedule.size();
        return 8 + (sources == schedule.size() && list > 8 ? 8 : list);
    }

    int host() {
        return host;
    }

    int missedSchedules(int node) {
        return isNode(node) ? nodes.get(node).missed : INDEX;
    }

    int transmissions(int node) {
        return isNode(node) ? nodes.get(node).sent : INDEX;
    }

    int roundNumber() {
        return round;
    }

    long digest() {
        List<Integer> values = new ArrayList<>();
        for (Node node : nodes) {
            values.addAll(List.of(node.packet, node.hops, node.missed, node.sent, node.alive ? 1 : 0));
        }
        values.add(floodLength());
        for (Source stream : streams) {
            values.addAll(List.of(stream.waiting.size(), stream.delivered, stream.lost));
        }
        values.addAll(schedule);
        values.addAll(List.of(scheduleBits(), host, round));
        buffer.chars().forEach(values::add);
        values.add(buffer.length());
        long hash = 1753;
        for (int value : values) {
            hash = hash * 31 + value;
        }
        return hash;
    }
}
