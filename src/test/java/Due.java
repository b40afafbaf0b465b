/** Compares answers with what is due, and counts; also the short ways to a bus that the tests share. */
final class Due {
    /** A test of many runs would print a line for each call after its first wrong answer. */
    private static final int MOST_LINES = 100;

    private final String test;
    private int asked = 0;
    private int wrong = 0;

    Due(String test) {
        this.test = test;
    }

    void is(String call, long got, long due) {
        asked++;
        if (got != due) {
            wrong++;
            if (wrong <= MOST_LINES) {
                System.out.println(test + ": " + call + " answered " + got + ", due is " + due);
            }
        }
    }

    void isTrue(String claim, boolean holds) {
        is(claim, holds ? 1 : 0, 1);
    }

    /** Asks the same question for each index from 0 on. */
    void row(String call, java.util.function.IntUnaryOperator question, long... dueAnswers) {
        for (int i = 0; i < dueAnswers.length; i++) {
            is(call + "(" + i + ")", question.applyAsInt(i), dueAnswers[i]);
        }
    }

    int asked() {
        return asked;
    }

    int wrong() {
        return wrong;
    }

    void end() {
        System.out.println(test + ": " + asked + " answers, " + wrong + " wrong");
        if (wrong != 0 || asked == 0) {
            System.exit(1);
        }
    }

    static void type(FloodBus bus, String text) {
        for (int i = 0; i < text.length(); i++) {
            bus.append(text.charAt(i));
        }
    }

    static FloodBus typed(String text) {
        FloodBus bus = new FloodBus();
        type(bus, text);
        return bus;
    }

    static FloodBus loaded(String text) {
        FloodBus bus = typed(text);
        if (bus.loadNetwork() < 0) {
            throw new IllegalStateException("the test's own network is wrong: " + text);
        }
        return bus;
    }
}
