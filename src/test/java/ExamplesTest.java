import java.lang.reflect.Method;
import java.util.regex.Matcher;
import java.util.regex.Pattern;

/** The five examples of the document's description, call by call. */
public final class ExamplesTest {
    private static final Due due = new Due("ExamplesTest");

    public static void main(String[] args) throws Exception {
        linkBetweenTwoNodes();
        twoPacketsAtOnce();
        twoStreamsOfOneSource();
        deadHost();
        linkThatOccursTwice();
        asTheDocumentSays(due.asked());
        due.end();
    }

    /** The same calls once more, read from the document's text: so no answer above was copied wrongly or left out. */
    private static void asTheDocumentSays(int written) throws Exception {
        String document = Document.text("ExamplesTest");
        if (document.isEmpty()) {
            return;
        }
        Matcher example = Pattern.compile("(?m)^(\\d)\\. (.*\\) = .*)$").matcher(document);
        int examples = 0;
        while (example.find()) {
            examples++;
            runAsWritten(example.group(1), example.group(2));
        }
        due.is("calls in the document's examples", due.asked() - written, written);
        due.is("examples in the document", examples, 5);
    }

    private static void runAsWritten(String number, String text) throws Exception {
        FloodBus bus = new FloodBus();
        Matcher call = Pattern.compile("(\\w+)\\(([^)]*)\\) = (-?\\d+)").matcher(text);
        while (call.find()) {
            String[] words = call.group(2).isEmpty() ? new String[0] : call.group(2).split(", ");
            due.is("document, " + number + ": " + call.group(1) + "(" + call.group(2) + ")",
                answer(bus, call.group(1), words), Long.parseLong(call.group(3)));
        }
    }

    private static long answer(FloodBus bus, String name, String[] words) throws Exception {
        for (Method method : FloodBus.class.getMethods()) {
            if (method.getName().equals(name)) {
                Object[] values = new Object[words.length];
                for (int i = 0; i < words.length; i++) {
                    boolean isFlag = method.getParameterTypes()[i] == boolean.class;
                    values[i] = isFlag ? (Object) Boolean.valueOf(words[i]) : Integer.valueOf(words[i]);
                }
                return ((Number) method.invoke(bus, values)).longValue();
            }
        }
        throw new IllegalStateException("the class has no method " + name);
    }

    private static void append(FloodBus bus, int... codes) {
        for (int i = 0; i < codes.length; i++) {
            due.is("append(" + codes[i] + ")", bus.append(codes[i]), i + 1);
        }
    }

    private static void linkBetweenTwoNodes() {
        FloodBus bus = new FloodBus();
        append(bus, 50, 59, 48, 49, 57);
        due.is("1: loadNetwork()", bus.loadNetwork(), 2);
        due.is("1: flood(1)", bus.flood(1), 2);
        due.is("1: hopCount(1)", bus.hopCount(1), 1);
        due.is("1: floodLength()", bus.floodLength(), 4);
        due.is("1: transmissions(0)", bus.transmissions(0), 2);
    }

    private static void twoPacketsAtOnce() {
        FloodBus bus = new FloodBus();
        append(bus, 51, 59, 48, 50, 52, 59, 49, 50, 55);
        due.is("2: loadNetwork()", bus.loadNetwork(), 3);
        due.is("2: flood(3)", bus.flood(3), 3);
        due.is("2: packetAt(2)", bus.packetAt(2), 1);
        due.is("2: setCaptureMargin(4)", bus.setCaptureMargin(4), 3);
        due.is("2: flood(3)", bus.flood(3), 2);
        due.is("2: packetAt(2)", bus.packetAt(2), -1);
    }

    private static void twoStreamsOfOneSource() {
        FloodBus bus = new FloodBus();
        append(bus, 50, 59, 48, 49, 53);
        due.is("3: loadNetwork()", bus.loadNetwork(), 2);
        due.is("3: addStream(1, 1, 0)", bus.addStream(1, 1, 0), 0);
        due.is("3: addStream(1, 2, 1)", bus.addStream(1, 2, 1), 1);
        due.is("3: runRounds(1)", bus.runRounds(1), 1);
        due.is("3: scheduledStream(0)", bus.scheduledStream(0), 0);
        due.is("3: scheduledStream(1)", bus.scheduledStream(1), -1);
        due.is("3: deliveredPackets(0)", bus.deliveredPackets(0), 1);
        due.is("3: runRounds(1)", bus.runRounds(1), 2);
        due.is("3: scheduleBits()", bus.scheduleBits(), 14);
    }

    private static void deadHost() {
        FloodBus bus = new FloodBus();
        append(bus, 50, 59, 48, 49, 53);
        due.is("4: loadNetwork()", bus.loadNetwork(), 2);
        due.is("4: setAlive(0, false)", bus.setAlive(0, false), 1);
        due.is("4: runRounds(1)", bus.runRounds(1), 0);
        due.is("4: host()", bus.host(), 0);
        due.is("4: runRounds(1)", bus.runRounds(1), 0);
        due.is("4: host()", bus.host(), 1);
        due.is("4: missedSchedules(1)", bus.missedSchedules(1), 0);
    }

    private static void linkThatOccursTwice() {
        FloodBus bus = new FloodBus();
        append(bus, 51, 59, 48, 50, 53, 59, 48, 50);
        due.is("5: errorPosition()", bus.errorPosition(), 7);
        due.is("5: loadNetwork()", bus.loadNetwork(), -1003);
        due.is("5: runRounds(21)", bus.runRounds(21), -1002);
        due.is("5: runRounds(1)", bus.runRounds(1), -1003);
    }
}
