/** The paragraphs "Network", "Flood" and "Reception" of the description, sentence by sentence. */
final class NetworkSentences extends SentenceGroup {
    NetworkSentences(Sentences doc) {
        super(doc);
    }

    @Override
    void ask() {
        inParagraph("Network");
        holds("The network has 2 to 8 nodes, numbered from 0, and undirected links between pairs of different nodes.", this::nodesAndLinks);
        holds("Each link has a strength (1 to 9) and an optional loss period k (2 to 9).", this::strengthsAndPeriods);
        holds("A link with loss period k loses every signal in the slots t of a flood for which (t + 1) % k == 0.", this::lostSlots);
        holds("A link without a loss period never loses a signal.", this::withoutLoss);
        holds("Strength and loss period are the same in both directions.", this::bothDirections);
        holds("A node is either alive or dead.", this::aliveOrDead);
        holds("A dead node neither sends nor receives.", this::deadNodes);
        inParagraph("Flood");
        holds("A flood starts with one or more initiators, which are alive nodes.", this::initiators);
        holds("Each initiator holds its own packet.", this::ownPackets);
        holds("Slots are numbered from 0.", this::slotZero);
        holds("An initiator transmits its packet in slots 0, 2, 4 and so on.", this::evenSlots);
        holds("A node that receives a packet in slot s transmits that packet in slots s + 1, s + 3, s + 5 and so on.", this::slotsOfARelay);
        holds("Every node transmits exactly as many times as the transmission limit says.", this::exactlyTheLimit);
        holds("The flood ends after the last transmission.", this::endOfAFlood);
        inParagraph("Reception");
        holds("In each slot, every alive node that holds no packet yet listens.", this::listeners);
        holds("It hears one signal from each alive neighbour that transmits in that slot over a link that does not lose signals in that slot.",
            this::heardSignals);
        holds("If all signals carry the same packet, the node receives that packet.", this::samePacket);
        holds("If the signals carry different packets, then the level of a packet is the greatest strength among the signals that carry it.",
            this::levelOfAPacket);
        holds("The node receives the packet of the greatest level if that level exceeds the level of every other packet by at least the capture margin.",
            this::atLeastTheMargin);
        holds("Otherwise the node receives nothing in that slot.", this::nothingInThatSlot);
        holds("A node that holds a packet ignores all signals.", this::holdersIgnore);
    }

    private void nodesAndLinks() {
        is("loadNetwork() of one node", Due.typed("1").loadNetwork(), INVALID_STATE);
        is("loadNetwork() of nine nodes", Due.typed("9").loadNetwork(), INVALID_STATE);
        for (int nodes = 2; nodes <= 8; nodes++) {
            FloodBus bus = loaded("" + nodes);
            is("transmissions(0)", bus.transmissions(0), 0);
            is("transmissions(" + (nodes - 1) + ")", bus.transmissions(nodes - 1), 0);
            is("transmissions(" + nodes + ")", bus.transmissions(nodes), INVALID_INDEX);
        }
        for (int node = 0; node < 8; node++) {
            is("errorPosition() of a link from " + node + " to itself", Due.typed("8;" + node + node).errorPosition(), 3);
        }
        FloodBus bus = loaded("2;015");
        is("flood(1), forwards", bus.flood(1), 2);
        is("flood(2), backwards", bus.flood(2), 2);
    }

    private void strengthsAndPeriods() {
        is("loadNetwork(), strength 0", Due.typed("2;010").loadNetwork(), INVALID_STATE);
        is("loadNetwork(), loss period 0", Due.typed("2;0150").loadNetwork(), INVALID_STATE);
        is("loadNetwork(), loss period 1", Due.typed("2;0151").loadNetwork(), INVALID_STATE);
        for (int strength = 1; strength <= 9; strength++) {
            is("loadNetwork(), strength " + strength, Due.typed("2;01" + strength).loadNetwork(), 2);
        }
        for (int period = 2; period <= 9; period++) {
            is("loadNetwork(), loss period " + period, Due.typed("2;011" + period).loadNetwork(), 2);
        }
    }

    /** Each network is a chain; the signal over its last link comes two slots late if its first slot is lost. */
    private void hopsAtTheEnd(String network, int hops) {
        FloodBus bus = loaded(network);
        bus.flood(1);
        is("hopCount of the last node of " + network, bus.hopCount(network.charAt(0) - '1'), hops);
    }

    private void lostSlots() {
        for (int period = 2; period <= 9; period++) {
            hopsAtTheEnd("2;019" + period, 1);
        }
        hopsAtTheEnd("3;019;1292", -1);
        hopsAtTheEnd("4;019;129;2393", 5);
        hopsAtTheEnd("5;019;129;239;3494", 6);
        hopsAtTheEnd("6;019;129;239;349;4595", 7);
        hopsAtTheEnd("7;019;129;239;349;459;5696", 8);
        hopsAtTheEnd("8;019;129;239;349;459;569;6797", 9);
        // The loss at link 2-3 brings the packet to later slots: 7 at the last link of the first, 8 of the second.
        hopsAtTheEnd("7;019;129;2393;349;459;5698", 10);
        hopsAtTheEnd("8;019;129;2393;349;459;569;6799", 11);
        // One slot before and behind a lost one, and the next multiples of the period.
        hopsAtTheEnd("3;019;1293", 2);
        hopsAtTheEnd("5;019;129;239;3493", 4);
        hopsAtTheEnd("7;019;129;239;349;459;5693", 8);
        hopsAtTheEnd("5;019;129;239;3492", -1);
        hopsAtTheEnd("8;019;129;2393;349;459;569;6793", 11);
        FloodBus often = loaded("3;019;1292");
        often.setTransmissionLimit(4);
        is("flood(1): slots 1, 3, 5 and 7 are lost", often.flood(1), 2);
    }

    private void withoutLoss() {
        for (int limit = 1; limit <= 4; limit++) {
            FloodBus bus = loaded(CHAIN_OF_EIGHT);
            bus.setTransmissionLimit(limit);
            is("flood(1)", bus.flood(1), 8);
            row("hopCount", bus::hopCount, 0, 1, 2, 3, 4, 5, 6, 7);
            is("flood(128)", bus.flood(128), 8);
            row("hopCount", bus::hopCount, 7, 6, 5, 4, 3, 2, 1, 0);
        }
    }

    private void bothDirections() {
        FloodBus upwards = loaded("3;024;127");
        upwards.flood(3);
        is("packetAt(2), links from lower nodes", upwards.packetAt(2), 1);
        FloodBus downwards = loaded("3;014;027");
        downwards.flood(6);
        is("packetAt(0), links from higher nodes", downwards.packetAt(0), 2);
        FloodBus middle = loaded("3;014;127");
        middle.flood(5);
        is("packetAt(1), one link of each kind", middle.packetAt(1), 2);
        is("flood(1), link 1-2 loses in slots 1 and 3", loaded("3;019;1292").flood(1), 2);
        is("flood(4), link 0-1 loses in slots 1 and 3", loaded("3;0192;129").flood(4), 2);
        is("flood(4), link 0-1 does not lose in slot 1", loaded("3;0193;129").flood(4), 3);
    }

    private void aliveOrDead() {
        FloodBus bus = loaded("2");
        for (int i = 0; i < 2; i++) {
            is("setAlive(0, false) of an alive node", bus.setAlive(0, false), 1);
            is("setAlive(0, true) of a dead node", bus.setAlive(0, true), 0);
        }
    }

    private void deadNodes() {
        FloodBus bus = loaded("4;015;125;235");
        bus.setAlive(1, false);
        is("flood(1): a dead node receives nothing", bus.flood(1), 1);
        row("packetAt", bus::packetAt, 0, -1, -1, -1);
        row("transmissions: a dead node sends nothing", bus::transmissions, 2, 0, 0, 0);
        is("flood(8)", bus.flood(8), 2);
        row("packetAt", bus::packetAt, -1, -1, 3, 3);
        // Dead node 1 can't disturb what node 2 hears.
        FloodBus pair = loaded("3;025;125");
        is("flood(3): two packets of equal level", pair.flood(3), 2);
        pair.setAlive(1, false);
        is("flood(1) with node 1 dead", pair.flood(1), 2);
        bus.runRounds(3);
        is("missedSchedules(1): a dead node misses nothing", bus.missedSchedules(1), 0);
    }

    private void initiators() {
        FloodBus bus = loaded("8");
        is("flood(0)", bus.flood(0), INVALID_VALUE);
        for (int node = 0; node < 8; node++) {
            is("flood of node " + node, bus.flood(1 << node), 1);
        }
        is("flood of all", bus.flood(255), 8);
        bus.setAlive(7, false);
        is("flood of all, one of them dead", bus.flood(255), INVALID_STATE);
        is("flood of all others", bus.flood(127), 7);
    }

    private void ownPackets() {
        FloodBus bus = loaded(CHAIN_OF_EIGHT);
        bus.flood(255);
        row("packetAt", bus::packetAt, 0, 1, 2, 3, 4, 5, 6, 7);
        row("hopCount", bus::hopCount, 0, 0, 0, 0, 0, 0, 0, 0);
    }

    private void slotZero() {
        FloodBus bus = loaded("2;015");
        bus.setTransmissionLimit(1);
        bus.flood(2);
        is("hopCount(0): slot 0, and 1", bus.hopCount(0), 1);
        FloodBus lone = loaded("2");
        lone.setTransmissionLimit(1);
        lone.flood(1);
        is("floodLength(): slot 0 alone", lone.floodLength(), 1);
    }

    /** Packets of equal level come together until the link of one loses; only slots 0, 2, 4, 6 are used. */
    private void evenSlots() {
        int[] dueHops = {-1, 3, -1, 5, -1, 7, -1, -1};
        for (int period = 2; period <= 9; period++) {
            FloodBus bus = loaded("3;025" + period + ";125");
            bus.setTransmissionLimit(4);
            bus.flood(3);
            is("hopCount(2), loss period " + period, bus.hopCount(2), dueHops[period - 2]);
            is("packetAt(2), loss period " + period, bus.packetAt(2), dueHops[period - 2] < 0 ? NONE : 1);
        }
        FloodBus three = loaded("3;0257;125");
        three.setTransmissionLimit(3);
        three.flood(3);
        is("hopCount(2), slot 6 is one too late for limit 3", three.hopCount(2), NONE);
    }

    /** Nodes 1 and 3 receive in slot 0, so they send in slots 1, 3, 5, 7, with equal levels at node 4. */
    private void slotsOfARelay() {
        int[] dueHops = {2, 6, 4, -1, 6, -1, 8, -1};
        for (int period = 2; period <= 9; period++) {
            FloodBus bus = loaded("5;015;145" + period + ";235;345");
            bus.setTransmissionLimit(4);
            bus.flood(5);
            is("hopCount(4), loss period " + period, bus.hopCount(4), dueHops[period - 2]);
            is("packetAt(4), loss period " + period, bus.packetAt(4), dueHops[period - 2] < 0 ? NONE : 2);
        }
    }

    private void exactlyTheLimit() {
        for (int limit = 1; limit <= 4; limit++) {
            FloodBus bus = loaded("8;015;125;235;345;455;565");
            bus.setTransmissionLimit(limit);
            bus.flood(1);
            row("transmissions, limit " + limit, bus::transmissions, limit, limit, limit, limit, limit, limit, limit, 0);
            bus.flood(127);
            row("transmissions of initiators, limit " + limit, bus::transmissions, 2 * limit, 2 * limit, 2 * limit);
        }
        // Link 0-2 loses slot 2 (slot 4), so one transmission more would bring packet 1 to node 2; the chain goes on meanwhile.
        FloodBus once = loaded("6;0253;125;035;345;455");
        once.setTransmissionLimit(1);
        is("flood(3), limit 1", once.flood(3), 5);
        is("packetAt(2), limit 1", once.packetAt(2), NONE);
        FloodBus twice = loaded("6;0255;125;035;345;455");
        is("flood(3), limit 2", twice.flood(3), 5);
        is("packetAt(2), limit 2", twice.packetAt(2), NONE);
        twice.setTransmissionLimit(3);
        is("flood(3), limit 3", twice.flood(3), 6);
        is("packetAt(2), limit 3", twice.packetAt(2), 1);
    }

    private void endOfAFlood() {
        for (int limit = 1; limit <= 4; limit++) {
            FloodBus lone = loaded("2");
            lone.setTransmissionLimit(limit);
            lone.flood(1);
            is("floodLength() of a lone node, limit " + limit, lone.floodLength(), 2 * limit - 1);
            FloodBus chain = loaded(CHAIN_OF_EIGHT);
            chain.setTransmissionLimit(limit);
            chain.flood(1);
            is("floodLength() of a chain, limit " + limit, chain.floodLength(), 7 + 2 * limit - 1);
        }
        // Node 2 could receive in slot 2, but nobody sends any more.
        FloodBus once = loaded("3;0253;125");
        once.setTransmissionLimit(1);
        is("flood(3)", once.flood(3), 2);
        is("floodLength()", once.floodLength(), 1);
    }

    private void listeners() {
        FloodBus bus = loaded("5;015;025;035;045");
        is("flood(1): all listen in slot 0", bus.flood(1), 5);
        row("hopCount", bus::hopCount, 0, 1, 1, 1, 1);
        bus.setAlive(3, false);
        is("flood(1): the dead one does not", bus.flood(1), 4);
        FloodBus again = loaded("3;0253;125");
        again.flood(3);
        is("hopCount(2): nothing in slot 0, so it listens in slot 2", again.hopCount(2), 3);
    }

    private void heardSignals() {
        FloodBus apart = loaded("4;025;135");
        apart.flood(3);
        row("packetAt: who is no neighbour is not heard", apart::packetAt, 0, 1, 0, 1);
        // In slot 0 node 3 hears only initiator 1: node 2 has its packet from slot 1 on.
        FloodBus timed = loaded("4;025;135;235");
        timed.flood(3);
        row("packetAt: who does not transmit is not heard", timed::packetAt, 0, 1, 0, 1);
        FloodBus lossy = loaded("5;015;1452;235;345");
        lossy.flood(5);
        is("packetAt(4): what the link loses is not heard", lossy.packetAt(4), 2);
        FloodBus dead = loaded("4;019;139;029;235");
        dead.setAlive(1, false);
        is("flood(1): only over node 2", dead.flood(1), 3);
        is("hopCount(3)", dead.hopCount(3), 2);
        dead.setAlive(2, false);
        is("flood(1): no alive neighbour", dead.flood(1), 1);
    }

    private void samePacket() {
        FloodBus weak = loaded("2;011");
        weak.setCaptureMargin(9);
        is("flood(1): one signal of strength 1, margin 9", weak.flood(1), 2);
        for (int strength = 1; strength <= 9; strength++) {
            FloodBus bus = loaded("4;015;025;135;23" + strength);
            bus.setCaptureMargin(9);
            is("flood(1): strengths 5 and " + strength + ", margin 9", bus.flood(1), 4);
            row("packetAt", bus::packetAt, 0, 0, 0, 0);
            row("hopCount", bus::hopCount, 0, 1, 1, 2);
        }
    }

    /** In slot 1 node 3 hears packet 0 from nodes 1 and 2, and packet 4 from node 5. */
    private int packetOfThree(int fromOne, int fromTwo, int fromFive, int margin) {
        FloodBus bus = loaded("6;019;029;13" + fromOne + ";23" + fromTwo + ";459;35" + fromFive);
        bus.setTransmissionLimit(1);
        bus.setCaptureMargin(margin);
        bus.flood(17);
        return bus.packetAt(3);
    }

    private void levelOfAPacket() {
        is("9 and 2 against 8, margin 1", packetOfThree(9, 2, 8, 1), 0);
        is("2 and 9 against 8, margin 1", packetOfThree(2, 9, 8, 1), 0);
        is("9 and 2 against 8, margin 2", packetOfThree(9, 2, 8, 2), NONE);
        is("9 and 9 against 8, margin 2", packetOfThree(9, 9, 8, 2), NONE);
        is("5 and 4 against 7, margin 2", packetOfThree(5, 4, 7, 2), 4);
        is("5 and 4 against 7, margin 3", packetOfThree(5, 4, 7, 3), NONE);
        is("4 and 5 against 7, margin 2", packetOfThree(4, 5, 7, 2), 4);
        is("4 and 4 against 4, margin 1", packetOfThree(4, 4, 4, 1), NONE);
        is("9 and 8 against 1, margin 8", packetOfThree(9, 8, 1, 8), 0);
    }

    private void atLeastTheMargin() {
        for (int margin = 1; margin <= 9; margin++) {
            for (int first = 1; first <= 9; first++) {
                for (int second = 1; second <= 9; second++) {
                    FloodBus bus = loaded("3;02" + first + ";12" + second);
                    bus.setCaptureMargin(margin);
                    bus.flood(3);
                    int captured = first - second >= margin ? 0 : second - first >= margin ? 1 : NONE;
                    is("packetAt(2), " + first + " against " + second + ", margin " + margin, bus.packetAt(2), captured);
                }
            }
        }
        threePackets(9, 6, 6, 0);
        threePackets(9, 6, 1, 0);
        threePackets(9, 7, 1, NONE);
        threePackets(1, 7, 9, NONE);
        threePackets(7, 1, 9, NONE);
        threePackets(6, 9, 5, 1);
        threePackets(9, 9, 1, NONE);
        threePackets(1, 1, 4, 2);
    }

    private void threePackets(int zero, int one, int two, int captured) {
        FloodBus bus = loaded("4;03" + zero + ";13" + one + ";23" + two);
        bus.flood(7);
        is("packetAt(3), levels " + zero + ", " + one + ", " + two + ", margin 3", bus.packetAt(3), captured);
    }

    private void nothingInThatSlot() {
        FloodBus never = loaded("3;025;125");
        is("flood(3)", never.flood(3), 2);
        is("packetAt(2)", never.packetAt(2), NONE);
        is("transmissions(2)", never.transmissions(2), 0);
        FloodBus later = loaded("3;0253;125");
        is("flood(3)", later.flood(3), 3);
        is("packetAt(2) from slot 2", later.packetAt(2), 1);
        is("hopCount(2)", later.hopCount(2), 3);
    }

    private void holdersIgnore() {
        FloodBus pair = loaded("2;019");
        pair.flood(3);
        row("packetAt of two initiators", pair::packetAt, 0, 1);
        // Node 1 takes packet 0 at strength 1 in slot 0; node 2 brings packet 3 at strength 9 in slot 1.
        FloodBus relay = loaded("4;011;129;235");
        is("flood(9)", relay.flood(9), 4);
        row("packetAt", relay::packetAt, 0, 0, 3, 3);
        row("hopCount", relay::hopCount, 0, 1, 1, 0);
        is("floodLength()", relay.floodLength(), 4);
        row("transmissions", relay::transmissions, 2, 2, 2, 2);
    }
}
