/** Promises 1 to 5, sentence by sentence: a new object, the buffer, the description in it. */
final class BufferSentences extends SentenceGroup {
    BufferSentences(Sentences doc) {
        super(doc);
    }

    @Override
    void ask() {
        inPromise(1);
        holds("Creates a bus without a network.", this::aNewBusHasNoNetwork);
        holds("The transmission limit is 2, the capture margin 3, the slot limit 3, the takeover limit 2.", this::firstLimits);
        inPromise(2);
        holds("Appends one character to the input buffer.", this::appendsOneCharacter);
        holds("`ch`: character code, 32 to 126", this::codesFrom32To126);
        holds("Returns the new length of the buffer", this::appendAnswersTheNewLength);
        holds("INVALID_VALUE if ch is out of range (checked first)", this::rangeIsCheckedBeforeCapacity);
        holds("CAPACITY_EXCEEDED if the buffer already holds 61 characters.", this::aBufferHolds61);
        inPromise(3);
        holds("Empties the input buffer.", this::emptiesTheBuffer);
        holds("Returns the length of the buffer before the call.", this::clearAnswersTheOldLength);
        inPromise(4);
        holds("Finds the first character of the buffer that breaks a rule of a network description.", this::firstOfSeveralErrors);
        holds("Each character is checked only against the rules below: a first node that leaves no possible second node is not itself an error.",
            this::aFirstNodeWithoutASecondIsNoError);
        holds("A description is a digit 2 to 8, the number of nodes, followed by zero to twelve links.", this::nodesAndLinks);
        holds("A link is \";\", a digit for its first node, a digit for its second node, a digit 1 to 9 for its strength, "
            + "and optionally a digit 2 to 9 for its loss period.", this::charactersOfALink);
        holds("The first node must be less than the number of nodes.", this::firstNodeBelowTheCount);
        holds("The second node must be greater than the first node and less than the number of nodes, and no earlier link "
            + "of the description may have the same two nodes; otherwise the error is at the digit of the second node.", this::secondNode);
        holds("The \";\" of a thirteenth link is an error.", this::thirteenthLink);
        holds("Returns the index of that character, or the length of the buffer if there is none.", this::indexOrLength);
        inPromise(5);
        holds("Replaces the network by the one that the buffer describes, and empties the buffer.", this::replacesTheNetwork);
        holds("Every node is alive, node 0 is host, there are no streams, the round number is 0, no flood has taken place, "
            + "the schedule is empty, and all counters of nodes are 0.", this::everythingStartsAnew);
        holds("The four limits set by the setters keep their values.", this::limitsStay);
        holds("Returns the number of nodes", this::loadAnswersTheNumberOfNodes);
        holds("INVALID_STATE if the buffer does not hold a complete description (an empty buffer does not, nor does a buffer "
            + "that ends within a link before its strength).", this::incompleteDescriptions);
    }

    private void aNewBusHasNoNetwork() {
        FloodBus bus = new FloodBus();
        is("host()", bus.host(), NONE);
        is("runRounds(1)", bus.runRounds(1), INVALID_STATE);
        is("flood(1)", bus.flood(1), INVALID_VALUE);
        is("packetAt(0)", bus.packetAt(0), INVALID_INDEX);
        is("setAlive(0, true)", bus.setAlive(0, true), INVALID_INDEX);
        is("addStream(0, 1, 0)", bus.addStream(0, 1, 0), INVALID_INDEX);
        is("errorPosition()", bus.errorPosition(), 0);
        is("loadNetwork()", bus.loadNetwork(), INVALID_STATE);
        is("clearBuffer()", bus.clearBuffer(), 0);
    }

    private void firstLimits() {
        FloodBus told = new FloodBus();
        is("setTransmissionLimit(1)", told.setTransmissionLimit(1), 2);
        is("setCaptureMargin(1)", told.setCaptureMargin(1), 3);
        is("setSlotLimit(1)", told.setSlotLimit(1), 3);
        is("setTakeoverLimit(1)", told.setTakeoverLimit(1), 2);
        FloodBus used = loaded("4;024;127;035;137");
        used.flood(3);
        row("packetAt: 7 against 4 is enough, 7 against 5 is not", used::packetAt, 0, 1, 1, -1);
        row("transmissions", used::transmissions, 2, 2, 2, 0);
        for (int i = 0; i < 4; i++) {
            used.addStream(0, 1, 0);
        }
        is("runRounds(1) with four streams", used.runRounds(1), 3);
        used.setAlive(0, false);
        used.runRounds(1);
        is("host() after a round without it", used.host(), 0);
        used.runRounds(1);
        // Node 1 is two hops away over node 2 and has missed no schedule before.
        is("host() after two rounds without it", used.host(), 1);
    }

    private void appendsOneCharacter() {
        FloodBus bus = new FloodBus();
        bus.append('3');
        is("clearBuffer()", bus.clearBuffer(), 1);
        String text = "3;0142";
        for (int i = 0; i < text.length(); i++) {
            bus.append(text.charAt(i));
            is("errorPosition() after " + text.substring(0, i + 1), bus.errorPosition(), i + 1);
        }
        is("loadNetwork()", bus.loadNetwork(), 3);
    }

    private void codesFrom32To126() {
        int[] out = {31, 127, 30, 128, 0, -1, -32, 9, 10, 160, 255, 256 + 50, 65536 + 50, Integer.MIN_VALUE, Integer.MIN_VALUE + 50,
            Integer.MAX_VALUE};
        for (int ch : out) {
            refused("append(" + ch + ")", FloodBus::new, bus -> bus.append(ch), INVALID_VALUE);
            refused("append(" + ch + ") later", SentenceGroup::busy, bus -> bus.append(ch), INVALID_VALUE);
        }
        for (int ch = 32; ch <= 126; ch++) {
            FloodBus bus = new FloodBus();
            is("append(" + ch + ")", bus.append(ch), 1);
            is("append(" + ch + ") again", bus.append(ch), 2);
        }
    }

    private void appendAnswersTheNewLength() {
        FloodBus bus = new FloodBus();
        for (int length = 1; length <= 61; length++) {
            is("append(32)", bus.append(32), length);
        }
        bus.clearBuffer();
        is("append(32) to the emptied buffer", bus.append(32), 1);
    }

    private void rangeIsCheckedBeforeCapacity() {
        refused("append(31) to the full buffer", SentenceGroup::full, bus -> bus.append(31), INVALID_VALUE);
        refused("append(127) to the full buffer", SentenceGroup::full, bus -> bus.append(127), INVALID_VALUE);
        refused("append(MIN) to the full buffer", SentenceGroup::full, bus -> bus.append(Integer.MIN_VALUE), INVALID_VALUE);
        refused("append(MAX) to the full buffer", SentenceGroup::full, bus -> bus.append(Integer.MAX_VALUE), INVALID_VALUE);
    }

    private void aBufferHolds61() {
        FloodBus bus = Due.typed(TWELVE_LINKS.substring(0, 60));
        is("append of the 61st", bus.append('9'), 61);
        is("append of a 62nd", bus.append('9'), CAPACITY_EXCEEDED);
        is("append of a 62nd again", bus.append(32), CAPACITY_EXCEEDED);
        is("errorPosition(): the 61 are as they were", bus.errorPosition(), 61);
        is("clearBuffer()", bus.clearBuffer(), 61);
        is("append to the emptied buffer", bus.append('9'), 1);
        refused("append(32) to the full buffer", SentenceGroup::full, full -> full.append(32), CAPACITY_EXCEEDED);
        refused("append(126) to the full buffer", SentenceGroup::full, full -> full.append(126), CAPACITY_EXCEEDED);
    }

    private void emptiesTheBuffer() {
        FloodBus bus = Due.typed("9;;;");
        bus.clearBuffer();
        is("errorPosition()", bus.errorPosition(), 0);
        is("loadNetwork() of the emptied buffer", bus.loadNetwork(), INVALID_STATE);
        Due.type(bus, "2");
        is("loadNetwork() of what came later", bus.loadNetwork(), 2);
        FloodBus typedAgain = busy();
        typedAgain.clearBuffer();
        Due.type(typedAgain, "4;01");
        same("clearBuffer() and the same text again", typedAgain, busy());
        FloodBus emptied = busy();
        emptied.clearBuffer();
        different("clearBuffer() of half a description", emptied, busy());
    }

    private void clearAnswersTheOldLength() {
        FloodBus bus = new FloodBus();
        is("clearBuffer() of an empty buffer", bus.clearBuffer(), 0);
        bus.append(32);
        is("clearBuffer() of one character", bus.clearBuffer(), 1);
        is("clearBuffer() again", bus.clearBuffer(), 0);
        Due.type(bus, TWELVE_LINKS);
        is("clearBuffer() of a full buffer", bus.clearBuffer(), 61);
        is("clearBuffer() again", bus.clearBuffer(), 0);
        Due.type(bus, "2");
        bus.loadNetwork();
        is("clearBuffer() after loadNetwork()", bus.clearBuffer(), 0);
    }

    private void errorAt(String text, int place) {
        is("errorPosition() of '" + text + "'", Due.typed(text).errorPosition(), place);
    }

    private void noError(String text) {
        errorAt(text, text.length());
    }

    private void firstOfSeveralErrors() {
        errorAt("9;99", 0);
        errorAt("3x;015", 1);
        errorAt("3;xx", 2);
        errorAt("3;0xx", 3);
        errorAt("3;01xx", 4);
        errorAt("3;015xx", 5);
        errorAt("3;0152xx", 6);
        errorAt("3;015;015;015", 7);
        errorAt(TWELVE_LINKS.substring(0, 60) + "1", 60);
        errorAt(" 3", 0);
        FloodBus bus = Due.typed("3;01x");
        is("errorPosition()", bus.errorPosition(), 4);
        Due.type(bus, "3;");
        is("errorPosition() with more behind it", bus.errorPosition(), 4);
    }

    private void aFirstNodeWithoutASecondIsNoError() {
        for (int nodes = 2; nodes <= 8; nodes++) {
            noError(nodes + ";" + (nodes - 1));
            for (int second = 0; second <= 9; second++) {
                errorAt(nodes + ";" + (nodes - 1) + second, 3);
            }
            is("loadNetwork()", Due.typed(nodes + ";" + (nodes - 1)).loadNetwork(), INVALID_STATE);
        }
        // All the links of the first node are there already.
        noError("2;015;0");
        errorAt("2;015;01", 7);
        noError("3;015;025;0");
        errorAt("3;015;025;02", 11);
    }

    private void nodesAndLinks() {
        for (char ch = 32; ch <= 126; ch++) {
            errorAt(String.valueOf(ch), ch >= '2' && ch <= '8' ? 1 : 0);
        }
        for (int nodes = 2; nodes <= 8; nodes++) {
            is("loadNetwork() of " + nodes + " nodes without a link", Due.typed("" + nodes).loadNetwork(), nodes);
        }
        for (int links = 0; links <= 12; links++) {
            noError(TWELVE_LINKS.substring(0, 1 + 5 * links));
            is("loadNetwork() of " + links + " links", Due.typed(TWELVE_LINKS.substring(0, 1 + 5 * links)).loadNetwork(), 8);
        }
        errorAt("22", 1);
        errorAt("8:", 1);
    }

    private void charactersOfALink() {
        for (char ch = 32; ch <= 126; ch++) {
            errorAt("8" + ch, ch == ';' ? 2 : 1);
            errorAt("8;" + ch, ch >= '0' && ch <= '7' ? 3 : 2);
            errorAt("8;0" + ch, ch >= '1' && ch <= '7' ? 4 : 3);
            errorAt("8;01" + ch, ch >= '1' && ch <= '9' ? 5 : 4);
            errorAt("8;011" + ch, ch >= '2' && ch <= '9' || ch == ';' ? 6 : 5);
            errorAt("8;0119" + ch, ch == ';' ? 7 : 6);
            errorAt("8;0119;" + ch, ch >= '0' && ch <= '7' ? 8 : 7);
        }
    }

    private void firstNodeBelowTheCount() {
        for (int nodes = 2; nodes <= 8; nodes++) {
            for (int first = 0; first <= 9; first++) {
                errorAt(nodes + ";" + first, first < nodes ? 3 : 2);
                errorAt(nodes + ";015;" + first, first < nodes ? 7 : 6);
            }
        }
    }

    private void secondNode() {
        for (int nodes = 2; nodes <= 8; nodes++) {
            for (int first = 0; first < nodes; first++) {
                for (int second = 0; second <= 9; second++) {
                    boolean allowed = second > first && second < nodes;
                    errorAt(nodes + ";" + first + second, allowed ? 4 : 3);
                    if (allowed) {
                        errorAt(nodes + ";" + first + second + "1;" + first + second, 7);
                        errorAt(nodes + ";" + first + second + "19;" + first + second + "1", 8);
                    }
                }
            }
        }
        errorAt("4;011;021;031;121;131;231;01", 27);
        errorAt("4;011;021;031;121;131;231;13", 27);
        noError("4;011;021;031;121;131;231");
    }

    private void thirteenthLink() {
        String shortLinks = "8;012;022;032;042;052;062;072;122;132;142;152;162";
        noError(shortLinks);
        errorAt(shortLinks + ";", 49);
        errorAt(shortLinks + ";175", 49);
        errorAt(shortLinks + ";01", 49);
        errorAt(shortLinks + "2;", 50);
        is("loadNetwork() of thirteen", Due.typed(shortLinks + ";175").loadNetwork(), INVALID_STATE);
        // Eleven links with a loss period and one without leave one place: for the ";" of the thirteenth.
        String almostFull = TWELVE_LINKS.substring(0, 60);
        noError(almostFull);
        errorAt(almostFull + ";", 60);
        noError(shortLinks.substring(0, 45) + ";");
    }

    private void indexOrLength() {
        errorAt("", 0);
        errorAt("x", 0);
        errorAt("2", 1);
        errorAt("2;", 2);
        errorAt(TWELVE_LINKS, 61);
        errorAt(TWELVE_LINKS.substring(0, 60) + "x", 60);
        FloodBus bus = busy();
        bus.errorPosition();
        bus.errorPosition();
        same("errorPosition() asked twice", bus, busy());
    }

    private void replacesTheNetwork() {
        FloodBus bus = loaded("3;019;129");
        Due.type(bus, "4;029;239");
        is("loadNetwork()", bus.loadNetwork(), 4);
        is("clearBuffer()", bus.clearBuffer(), 0);
        is("flood(1) over 0-2 and 2-3, no more over 0-1", bus.flood(1), 3);
        row("packetAt", bus::packetAt, 0, -1, 0, 0, INVALID_INDEX);
        Due.type(bus, "2;011");
        bus.loadNetwork();
        row("transmissions: nodes 2 and 3 are gone", bus::transmissions, 0, 0, INVALID_INDEX, INVALID_INDEX);
        is("flood(1)", bus.flood(1), 2);
        FloodBus withLoss = loaded("3;019;1292");
        is("flood(1) over a link that loses", withLoss.flood(1), 2);
        Due.type(withLoss, "3;019;129");
        withLoss.loadNetwork();
        is("flood(1) over the same link without loss", withLoss.flood(1), 3);
    }

    private void everythingStartsAnew() {
        FloodBus bus = full();
        bus.setAlive(0, false);
        bus.setTakeoverLimit(1);
        bus.runRounds(2);
        bus.flood(2);
        bus.setAlive(2, false);
        bus.runRounds(3);
        is("host() before", bus.host(), 1);
        is("missedSchedules(3) before, behind dead node 2", bus.missedSchedules(3), 3);
        bus.clearBuffer();
        Due.type(bus, "5;015;1253;235;344");
        is("loadNetwork()", bus.loadNetwork(), 5);
        is("host()", bus.host(), 0);
        is("roundNumber()", bus.roundNumber(), 0);
        is("floodLength()", bus.floodLength(), 0);
        is("scheduleBits()", bus.scheduleBits(), 8);
        row("scheduledStream", bus::scheduledStream, -1, -1);
        row("waitingPackets", bus::waitingPackets, INVALID_INDEX, INVALID_INDEX);
        row("packetAt", bus::packetAt, -1, -1, -1, -1, -1, INVALID_INDEX);
        row("hopCount", bus::hopCount, -1, -1, -1, -1, -1, INVALID_INDEX);
        row("missedSchedules", bus::missedSchedules, 0, 0, 0, 0, 0, INVALID_INDEX);
        row("transmissions", bus::transmissions, 0, 0, 0, 0, 0, INVALID_INDEX);
        row("setAlive(.., true)", node -> bus.setAlive(node, true), 1, 1, 1, 1, 1, INVALID_INDEX);
        FloodBus fresh = loaded("5;015;1253;235;344");
        fresh.setTransmissionLimit(3);
        fresh.setCaptureMargin(2);
        fresh.setSlotLimit(2);
        fresh.setTakeoverLimit(1);
        same("a network loaded by a used bus", bus, fresh);
    }

    private void limitsStay() {
        int[][] values = {{1, 1, 0, 1}, {4, 9, 6, 9}};
        for (int[] value : values) {
            FloodBus bus = new FloodBus();
            bus.setTransmissionLimit(value[0]);
            bus.setCaptureMargin(value[1]);
            bus.setSlotLimit(value[2]);
            bus.setTakeoverLimit(value[3]);
            Due.type(bus, "2");
            bus.loadNetwork();
            Due.type(bus, "3");
            bus.loadNetwork();
            is("setTransmissionLimit(2)", bus.setTransmissionLimit(2), value[0]);
            is("setCaptureMargin(2)", bus.setCaptureMargin(2), value[1]);
            is("setSlotLimit(2)", bus.setSlotLimit(2), value[2]);
            is("setTakeoverLimit(2)", bus.setTakeoverLimit(2), value[3]);
        }
    }

    private void loadAnswersTheNumberOfNodes() {
        for (int nodes = 2; nodes <= 8; nodes++) {
            is("loadNetwork()", Due.typed(nodes + ";015").loadNetwork(), nodes);
        }
        is("loadNetwork() of a full buffer", Due.typed(TWELVE_LINKS).loadNetwork(), 8);
    }

    private void incompleteDescriptions() {
        String[] texts = {"", "1", "9", "2;", "2;0", "2;01", "2;1", "2;010", "2;0151", "2;015;", "2;0152;", "3;015;1", "3;015;12",
            "3;0152;12", "3;025;02", "3;025;025", "2x", "x", " 2", "2 ", TWELVE_LINKS.substring(0, 60) + ";",
            TWELVE_LINKS.substring(0, 59), TWELVE_LINKS.substring(0, 58), TWELVE_LINKS.substring(0, 57)};
        for (String text : texts) {
            refused("loadNetwork() of '" + text + "'", () -> Due.typed(text), FloodBus::loadNetwork, INVALID_STATE);
            refused("loadNetwork() of '" + text + "' later", () -> busyWith(text), FloodBus::loadNetwork, INVALID_STATE);
        }
        String whole = "4;015;1252;238";
        for (int length = 0; length <= whole.length(); length++) {
            boolean complete = length == 1 || length == 5 || length == 9 || length == 10 || length == 14;
            is("loadNetwork() of '" + whole.substring(0, length) + "'", Due.typed(whole.substring(0, length)).loadNetwork(),
                complete ? 4 : INVALID_STATE);
        }
    }

    private static FloodBus busyWith(String text) {
        FloodBus bus = busy();
        bus.clearBuffer();
        Due.type(bus, text);
        return bus;
    }
}
