import java.util.NoSuchElementException;

/** Promises 43 to 45. */
public final class DenialTest {
    private static final Check check = new Check("DenialTest");

    public static void main(String[] args) {
        none();
        keptUntilTheNext();
        causes();
        otherExceptions();
        notByOthers();
        check.end();
    }

    private static void none() {
        JamBridge bridge = new JamBridge();
        check.fails("denial", NoSuchElementException.class, bridge::denial);
        check.fails("denialDetail", NoSuchElementException.class, bridge::denialDetail);
        check.fails("denialCause", NoSuchElementException.class, bridge::denialCause);
    }

    private static void keptUntilTheNext() {
        JamBridge bridge = new JamBridge();
        bridge.pass(7);
        bridge.saveSnapshot();
        check.denied("removeLastSpan", bridge, 3, 7, bridge::removeLastSpan);
        bridge.addSpan(1);
        bridge.pass(1);
        check.same("kept over changes", bridge.denial() * 100 + bridge.denialDetail(), 307);
        bridge.undo();
        bridge.restoreSnapshot();
        check.same("kept over undo and snapshots", bridge.denial() * 100 + bridge.denialDetail(), 307);
        check.denied("setRate(5)", bridge, 7, 5, () -> bridge.setRate(5));
        Scene.feed(bridge, "cut");
        check.denied("cut", bridge, 8, 0, bridge::execute);
        check.same("cause", bridge.denialCause(), 3);
        bridge.pass(1);
        bridge.undo();
        bridge.saveSnapshot();
        bridge.restoreSnapshot();
        Scene.run(bridge, "rate 6;rate 5");
        Scene.feed(bridge, "cutt");
        check.fails("a fault", IllegalArgumentException.class, bridge::execute);
        check.same("denial 8 is kept, too", bridge.denial() * 100 + bridge.denialDetail(), 800);
        check.same("and its cause", bridge.denialCause(), 3);
        check.denied("setRate(5) again", bridge, 7, 5, () -> bridge.setRate(5));
    }

    private static void cause(JamBridge bridge, String text, int index, int cause) {
        Scene.feed(bridge, text);
        check.denied(text, bridge, 8, index, bridge::execute);
        check.same("cause of " + text, bridge.denialCause(), cause);
    }

    private static void causes() {
        JamBridge bridge = Scene.bridge(24, 4, 10, 1, 0);
        cause(bridge, "pour 0 41", 0, 1);
        cause(bridge, "enter 60;enter 1", 1, 2);
        cause(bridge, "cut;cut;cut", 2, 3);
        cause(bridge, "cut;cut;enter 1", 2, 3);
        cause(bridge, "wait 1;enter 1;span 1", 2, 4);
        cause(bridge, "enter 1;pour 0 1", 1, 4);
        cause(bridge, "enter 1;cut", 1, 4);
        cause(bridge, "mend 0 1", 0, 6);
        cause(bridge, "rate 5", 0, 7);
        cause(bridge, "rate 6;rate 6", 1, 7);
        JamBridge poor = Scene.bridge(24, 12, 50, 1, 0);
        poor.enter(90);
        poor.pass(3);
        cause(poor, "mend 0 1", 0, 5);
        JamBridge full = Scene.bridge(24, 1, 50, 1, 0);
        for (int number = 0; number < 7; number++) {
            full.enter(1);
        }
        cause(full, "enter 1;enter 1", 1, 1);
        JamBridge long10 = Scene.bridge(0, 1, 0, 1, 0, 1, 0, 1, 0, 1, 0, 1, 0, 1, 0, 1, 0, 1, 0);
        cause(long10, "span 1;span 1", 1, 1);
    }

    private static void otherExceptions() {
        JamBridge bridge = Scene.bridge(24, 4, 10);
        cause(bridge, "span 0", 0, 9);
        cause(bridge, "span 21", 0, 9);
        cause(bridge, "span 1;pour 2 1", 1, 9);
        cause(bridge, "pour 0 0", 0, 9);
        cause(bridge, "pour 0 51", 0, 9);
        cause(bridge, "mend 1 1", 0, 9);
        cause(bridge, "mend 0 0", 0, 9);
        cause(bridge, "enter 0", 0, 9);
        cause(bridge, "rate 21", 0, 9);
        cause(bridge, "rate 1;wait 49", 1, 9);
        cause(bridge, "wait 00", 0, 9);
    }

    private static void notByOthers() {
        JamBridge bridge = Scene.bridge(24, 4, 10);
        check.denied("setRate(5)", bridge, 7, 5, () -> bridge.setRate(5));
        check.fails("addSpan(0)", IllegalArgumentException.class, () -> bridge.addSpan(0));
        check.fails("pour(1, 1)", IndexOutOfBoundsException.class, () -> bridge.pour(1, 1));
        check.fails("execute", IllegalArgumentException.class, bridge::execute);
        check.fails("undo of nothing", IllegalStateException.class, () -> new JamBridge().undo());
        check.same("other exceptions are no denials", bridge.denial() * 100 + bridge.denialDetail(), 705);
    }
}
