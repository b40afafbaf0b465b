import java.util.function.IntUnaryOperator;
import java.util.function.Supplier;
import java.util.function.ToIntFunction;

/** What the groups of sentences share: short words for asking, and buses in states that are good to ask in. */
abstract class SentenceGroup {
    static final int INVALID_INDEX = -1001;
    static final int INVALID_VALUE = -1002;
    static final int INVALID_STATE = -1003;
    static final int CAPACITY_EXCEEDED = -1004;
    static final int NONE = -1;

    /** Twelve links with their loss periods fill the buffer. */
    static final String TWELVE_LINKS = "8;0129;0229;0329;0429;0529;0629;0729;1229;1329;1429;1529;1629";
    static final String CHAIN_OF_EIGHT = "8;015;125;235;345;455;565;675";

    private final Sentences doc;

    SentenceGroup(Sentences doc) {
        this.doc = doc;
    }

    abstract void ask();

    void holds(String sentence, Runnable check) {
        doc.holds(sentence, check);
    }

    void inPromise(int number) {
        doc.inPromise(number);
    }

    void inParagraph(String name) {
        doc.inParagraph(name);
    }

    void is(String call, long got, long due) {
        doc.due.is(call, got, due);
    }

    void row(String call, IntUnaryOperator question, long... dueAnswers) {
        doc.due.row(call, question, dueAnswers);
    }

    /** The call answers the error, and a twin that was spared the call can't be told from the bus later on. */
    void refused(String call, Supplier<FloodBus> maker, ToIntFunction<FloodBus> question, int error) {
        FloodBus bus = maker.get();
        is(call, question.applyAsInt(bus), error);
        same(call + " changes nothing", bus, maker.get());
    }

    void same(String claim, FloodBus one, FloodBus other) {
        is(claim + " (place of the first difference)", Trace.firstDifference(one, other), Trace.NO_DIFFERENCE);
    }

    void different(String claim, FloodBus one, FloodBus other) {
        is(claim, Trace.firstDifference(one, other) == Trace.NO_DIFFERENCE ? 1 : 0, 0);
    }

    static FloodBus loaded(String text) {
        return Due.loaded(text);
    }

    /** Five nodes, one of them dead, all limits changed, waiting packets, a schedule, a flood, half a description. */
    static FloodBus busy() {
        FloodBus bus = loaded("5;015;1253;235;344");
        bus.setTransmissionLimit(3);
        bus.setCaptureMargin(2);
        bus.setSlotLimit(2);
        bus.setTakeoverLimit(4);
        bus.addStream(1, 1, 0);
        bus.addStream(3, 2, 1);
        bus.addStream(0, 1, 0);
        bus.runRounds(5);
        bus.setAlive(4, false);
        bus.flood(5);
        Due.type(bus, "4;01");
        return bus;
    }

    /** Six streams and 61 characters. */
    static FloodBus full() {
        FloodBus bus = busy();
        for (int i = 3; i < 6; i++) {
            bus.addStream(i - 1, i, i);
        }
        bus.runRounds(2);
        bus.clearBuffer();
        Due.type(bus, TWELVE_LINKS);
        return bus;
    }

    /** Round 9980, after 501 calls; an object is made for 512. */
    static FloodBus late() {
        FloodBus bus = loaded("2");
        for (int i = 0; i < 499; i++) {
            bus.runRounds(20);
        }
        return bus;
    }
}
