/** Promises 1 to 5: a new object, and the network description. */
public final class DescriptionTest {
    private static final Due due = new Due("DescriptionTest");
    private static final String TWELVE_LINKS =
        "8;0129;0229;0329;0429;0529;0629;0729;1229;1329;1429;1529;1629";

    public static void main(String[] args) {
        promise1NewObject();
        promise1Limits();
        promise2Append();
        promise3ClearBuffer();
        promise4NodeCount();
        promise4Links();
        promise4SameLinkTwice();
        promise4ThirteenthLink();
        promise4EveryCharacterAtEveryPlace();
        promise4AskedAgain();
        promise5Incomplete();
        promise5Replaces();
        promise5KeepsLimits();
        promise5ForgetsLossAndCounters();
        due.end();
    }

    private static void promise1NewObject() {
        FloodBus bus = new FloodBus();
        due.is("new: host()", bus.host(), FloodBus.NONE);
        due.is("new: roundNumber()", bus.roundNumber(), 0);
        due.is("new: floodLength()", bus.floodLength(), 0);
        due.is("new: scheduleBits()", bus.scheduleBits(), 8);
        due.is("new: scheduledStream(0)", bus.scheduledStream(0), FloodBus.NONE);
        due.is("new: errorPosition()", bus.errorPosition(), 0);
        due.is("new: clearBuffer()", bus.clearBuffer(), 0);
        due.is("new: packetAt(0)", bus.packetAt(0), FloodBus.INVALID_INDEX);
        due.is("new: hopCount(0)", bus.hopCount(0), FloodBus.INVALID_INDEX);
        due.is("new: missedSchedules(0)", bus.missedSchedules(0), FloodBus.INVALID_INDEX);
        due.is("new: transmissions(0)", bus.transmissions(0), FloodBus.INVALID_INDEX);
        due.is("new: setAlive(0, true)", bus.setAlive(0, true), FloodBus.INVALID_INDEX);
        due.is("new: addStream(0, 1, 0)", bus.addStream(0, 1, 0), FloodBus.INVALID_INDEX);
        due.is("new: waitingPackets(0)", bus.waitingPackets(0), FloodBus.INVALID_INDEX);
        due.is("new: removeStream(0)", bus.removeStream(0), FloodBus.INVALID_INDEX);
        due.is("new: flood(1)", bus.flood(1), FloodBus.INVALID_VALUE);
        due.is("new: runRounds(1)", bus.runRounds(1), FloodBus.INVALID_STATE);
    }

    private static void promise1Limits() {
        FloodBus bus = new FloodBus();
        due.is("new: setTransmissionLimit(1)", bus.setTransmissionLimit(1), 2);
        due.is("new: setCaptureMargin(1)", bus.setCaptureMargin(1), 3);
        due.is("new: setSlotLimit(1)", bus.setSlotLimit(1), 3);
        due.is("new: setTakeoverLimit(1)", bus.setTakeoverLimit(1), 2);
    }

    private static void promise2Append() {
        FloodBus bus = new FloodBus();
        int[] wrong = {31, 127, 0, -1, 10, 233, Integer.MIN_VALUE, Integer.MAX_VALUE, 65536 + 50};
        for (int ch : wrong) {
            due.is("append(" + ch + ")", bus.append(ch), FloodBus.INVALID_VALUE);
        }
        for (int length = 1; length <= 61; length++) {
            due.is("append to " + length, bus.append(length % 2 == 0 ? 32 : 126), length);
        }
        due.is("append(50) to the full buffer", bus.append(50), FloodBus.CAPACITY_EXCEEDED);
        due.is("append(31) to the full buffer", bus.append(31), FloodBus.INVALID_VALUE);
        due.is("append(127) to the full buffer", bus.append(127), FloodBus.INVALID_VALUE);
        due.is("clearBuffer() of the full buffer", bus.clearBuffer(), 61);
    }

    private static void promise3ClearBuffer() {
        FloodBus bus = Due.typed("3;012");
        due.is("clearBuffer()", bus.clearBuffer(), 5);
        due.is("clearBuffer() again", bus.clearBuffer(), 0);
        due.is("append(50) after clearBuffer()", bus.append(50), 1);
        due.is("loadNetwork() after clearBuffer()", bus.loadNetwork(), 2);
        FloodBus network = Due.loaded("2;015");
        Due.type(network, "9");
        network.clearBuffer();
        due.is("clearBuffer() leaves the network", network.flood(1), 2);
    }

    private static void errorAt(String text, int place) {
        due.is("errorPosition() of " + text, Due.typed(text).errorPosition(), place);
    }

    private static void noError(String text) {
        errorAt(text, text.length());
    }

    private static void promise4NodeCount() {
        noError("");
        for (char ch = 32; ch <= 126; ch++) {
            errorAt(String.valueOf(ch), ch >= '2' && ch <= '8' ? 1 : 0);
        }
        errorAt("22", 1);
        errorAt("2 ", 1);
        errorAt("2:", 1);
    }

    private static void promise4Links() {
        noError("2;");
        noError("2;0");
        noError("2;1");
        errorAt("2;11", 3);
        errorAt("2;10", 3);
        errorAt("2;12", 3);
        errorAt("2;2", 2);
        errorAt("8;8", 2);
        noError("8;7");
        noError("8;67");
        errorAt("8;78", 3);
        errorAt("8;08", 3);
        errorAt("2;;", 2);
        errorAt("2;0;", 3);
        errorAt("2;01;", 4);
        noError("2;01");
        errorAt("2;010", 4);
        noError("2;011");
        noError("2;019");
        errorAt("2;01:", 4);
        errorAt("2;01/", 4);
        errorAt("2;0190", 5);
        errorAt("2;0191", 5);
        noError("2;0192");
        noError("2;0199");
        errorAt("2;019:", 5);
        errorAt("2;01922", 6);
        errorAt("2;0192 ", 6);
        noError("2;0192;");
        noError("3;011;121");
        noError("3;0112;1219");
        errorAt("3;011,121", 5);
        errorAt("x;011", 0);
    }

    private static void promise4SameLinkTwice() {
        noError("3;025;0");
        errorAt("3;025;02", 7);
        errorAt("3;0252;025", 8);
        errorAt("3;015;025;121;015", 15);
        errorAt("3;015;025;121;12", 15);
        noError("3;015;025;121");
    }

    private static void promise4ThirteenthLink() {
        due.is("length of twelve links", TWELVE_LINKS.length(), 61);
        noError(TWELVE_LINKS);
        due.is("loadNetwork() of twelve links", Due.typed(TWELVE_LINKS).loadNetwork(), 8);
        String twelveShort = "8;012;022;032;042;052;062;072;122;132;142;152;162";
        noError(twelveShort);
        errorAt(twelveShort + ";", 49);
        errorAt(twelveShort + ";172", 49);
        noError(twelveShort + "9");
        errorAt(twelveShort + "9;", 50);
    }

    /** Whatever follows the first wrong character is not looked at. */
    private static void promise4EveryCharacterAtEveryPlace() {
        String text = "4;0123;135";
        for (int place = 0; place < text.length(); place++) {
            for (char ch = 32; ch <= 126; ch++) {
                if ((ch < '0' || ch > '9') && ch != ';') {
                    errorAt(text.substring(0, place) + ch + text.substring(place + 1), place);
                }
            }
        }
    }

    private static void promise4AskedAgain() {
        FloodBus bus = Due.typed(TWELVE_LINKS);
        due.is("errorPosition()", bus.errorPosition(), 61);
        due.is("errorPosition() again", bus.errorPosition(), 61);
        due.is("loadNetwork() after it", bus.loadNetwork(), 8);
        due.is("errorPosition() of the emptied buffer", bus.errorPosition(), 0);
        Due.type(bus, "3;025;02");
        due.is("errorPosition() of the next text", bus.errorPosition(), 7);
        due.is("errorPosition() of the next text again", bus.errorPosition(), 7);
    }

    private static void promise5Incomplete() {
        String[] texts = {"", "9", "1", "2;", "2;0", "2;01", "2;010", "2;0191", "3;025;", "3;0252;", "3;025;1", "3;025;12",
            "3;025;02", "3;0252;0111", "2 ", " 2", "2;0192;", TWELVE_LINKS.substring(0, 60) + ";"};
        for (String text : texts) {
            FloodBus bus = Due.typed(text);
            due.is("loadNetwork() of " + text, bus.loadNetwork(), FloodBus.INVALID_STATE);
            due.is("host() after it", bus.host(), FloodBus.NONE);
            due.is("clearBuffer() after it", bus.clearBuffer(), text.length());
        }
        FloodBus bus = Due.loaded("3;015");
        bus.flood(1);
        bus.addStream(1, 1, 0);
        bus.runRounds(2);
        long before = bus.digest();
        due.is("loadNetwork() of nothing", bus.loadNetwork(), FloodBus.INVALID_STATE);
        due.is("digest() after it", bus.digest(), before);
        due.is("waitingPackets(0) after it", bus.waitingPackets(0), 0);
        String[] complete = {"2", "8", "2;011", "2;0119", "3;025;011", "3;0252;0119"};
        for (String text : complete) {
            due.is("loadNetwork() of " + text, Due.typed(text).loadNetwork(), text.charAt(0) - '0');
        }
    }

    private static void promise5Replaces() {
        FloodBus bus = Due.loaded("4;015;125;235");
        bus.setAlive(0, false);
        bus.addStream(1, 1, 0);
        bus.runRounds(3);
        bus.setAlive(3, false);
        bus.runRounds(3);
        bus.flood(2);
        Due.type(bus, "3;01");
        long before = bus.digest();
        due.is("loadNetwork() too early", bus.loadNetwork(), FloodBus.INVALID_STATE);
        due.is("digest() after it", bus.digest(), before);
        Due.type(bus, "7");
        due.is("loadNetwork()", bus.loadNetwork(), 3);
        due.is("clearBuffer()", bus.clearBuffer(), 0);
        due.is("host()", bus.host(), 0);
        due.is("roundNumber()", bus.roundNumber(), 0);
        due.is("floodLength()", bus.floodLength(), 0);
        due.is("scheduleBits()", bus.scheduleBits(), 8);
        due.is("scheduledStream(0)", bus.scheduledStream(0), FloodBus.NONE);
        due.is("waitingPackets(0)", bus.waitingPackets(0), FloodBus.INVALID_INDEX);
        due.row("packetAt", bus::packetAt, -1, -1, -1, -1001);
        due.row("hopCount", bus::hopCount, -1, -1, -1, -1001);
        due.row("missedSchedules", bus::missedSchedules, 0, 0, 0, -1001);
        due.row("transmissions", bus::transmissions, 0, 0, 0, -1001);
        due.row("setAlive", node -> bus.setAlive(node, true), 1, 1, 1, -1001);
        due.is("flood(1) over the new links", bus.flood(1), 2);
        due.is("addStream(0, 1, 0)", bus.addStream(0, 1, 0), 0);
        due.row("a new stream after loadNetwork()", stream -> bus.deliveredPackets(stream), 0, -1001);
    }

    private static void promise5KeepsLimits() {
        FloodBus bus = Due.loaded("2;015");
        bus.setTransmissionLimit(4);
        bus.setCaptureMargin(5);
        bus.setSlotLimit(6);
        bus.setTakeoverLimit(7);
        Due.type(bus, "3");
        due.is("loadNetwork()", bus.loadNetwork(), 3);
        due.is("setTransmissionLimit(1)", bus.setTransmissionLimit(1), 4);
        due.is("setCaptureMargin(1)", bus.setCaptureMargin(1), 5);
        due.is("setSlotLimit(1)", bus.setSlotLimit(1), 6);
        due.is("setTakeoverLimit(1)", bus.setTakeoverLimit(1), 7);
    }

    private static void promise5ForgetsLossAndCounters() {
        FloodBus bus = Due.loaded("3;0192;1292");
        bus.runRounds(3);
        bus.setTransmissionLimit(1);
        due.is("flood(1) over links that lose", bus.flood(1), 2);
        due.row("missedSchedules", bus::missedSchedules, 0, 0, 3);
        Due.type(bus, "3;019;129");
        due.is("loadNetwork()", bus.loadNetwork(), 3);
        due.row("missedSchedules of a new network", bus::missedSchedules, 0, 0, 0);
        due.is("flood(1) over links without loss", bus.flood(1), 3);
        Due.type(bus, "3;129");
        due.is("loadNetwork()", bus.loadNetwork(), 3);
        due.is("flood(1) without the old link", bus.flood(1), 1);
    }
}
