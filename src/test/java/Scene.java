/** Bridges in the states that several tests begin with, and short forms of long runs of calls. */
final class Scene {
    private Scene() {
    }

    /** A bridge of spans, each told by its length and its jars, after some hours. */
    static JamBridge bridge(int hours, int... lengthsAndJars) {
        JamBridge bridge = new JamBridge();
        for (int i = 0; i < lengthsAndJars.length; i += 2) {
            int span = bridge.addSpan(lengthsAndJars[i]);
            if (lengthsAndJars[i + 1] > 0) {
                bridge.pour(span, lengthsAndJars[i + 1]);
            }
        }
        pass(bridge, hours);
        return bridge;
    }

    static void pass(JamBridge bridge, int hours) {
        for (int left = hours; left > 0; left -= Math.min(left, 48)) {
            bridge.pass(Math.min(left, 48));
        }
    }

    static JamBridge feed(JamBridge bridge, String text) {
        for (int i = 0; i < text.length(); i++) {
            bridge.feed(text.charAt(i));
        }
        return bridge;
    }

    static int run(JamBridge bridge, String text) {
        return feed(bridge, text).execute();
    }

    static String line(JamBridge bridge, int length) {
        StringBuilder line = new StringBuilder();
        for (int i = 0; i < length; i++) {
            line.append(bridge.lineCharacter(i));
        }
        return line.toString();
    }

    static String span(JamBridge bridge, int span) {
        return line(bridge, bridge.writeSpan(span));
    }

    /** Everything that changes can change, as far as the calls of the face tell it. */
    static String all(JamBridge bridge) {
        StringBuilder all = new StringBuilder();
        all.append(bridge.hour()).append(' ').append(bridge.rate()).append(' ').append(bridge.till());
        all.append(' ').append(bridge.paidTolls()).append(' ').append(bridge.crossed());
        all.append(' ').append(bridge.sunk()).append(' ').append(bridge.spanCount());
        for (int span = 0; span < bridge.spanCount(); span++) {
            all.append('[').append(span(bridge, span)).append(' ').append(bridge.stress(span)).append(']');
        }
        return all.toString();
    }

    /** 200 spoons in the till, then span 0 of set strength 100 ahead of a span that bears nothing. */
    static JamBridge rich() {
        JamBridge bridge = bridge(24, 12, 50);
        bridge.setRate(20);
        bridge.enter(99);
        bridge.pass(1);
        bridge.enter(1);
        bridge.pass(1);
        bridge.addSpan(1);
        Scene.pass(bridge, 4);
        return bridge;
    }

    /**
     * The rich bridge at hour 30 + 3 * steps: each step puts a crack into span 0, up to 9; the weights
     * are those that strain it. From step 6 on, the cracks spread to span 1 every 6 hours.
     */
    static JamBridge cracked(int steps) {
        int[] weights = {90, 0, 70, 0, 50, 0, 38, 28, 18, 10};
        JamBridge bridge = rich();
        for (int step = 0; step < steps; step++) {
            if (weights[step] > 0) {
                bridge.enter(weights[step]);
            }
            bridge.pass(3);
        }
        return bridge;
    }
}
