/** The examples of README.md, in their order, on one bridge. */
public final class ReadmeTest {
    private static final Check check = new Check("ReadmeTest");

    public static void main(String[] args) {
        JamBridge bridge = new JamBridge();
        firstSteps(bridge);
        check.denied("enter(61)", bridge, 2, 60, () -> bridge.enter(61));
        check.same("execute", Scene.run(bridge, "span 4;pour 1 10;wait 24"), 3);
        check.same("the output line", Scene.span(bridge, 1), "1:4j10h24=60");
        goingBack(bridge);
        check.end();
    }

    private static void firstSteps(JamBridge bridge) {
        check.same("addSpan", bridge.addSpan(4), 0);
        bridge.pour(0, 10);
        bridge.pass(24);
        check.same("strength", bridge.strength(0), 60);
        check.same("enter", bridge.enter(48), 0);
        check.same("pass", bridge.pass(1), 1);
        check.same("till", bridge.till(), 24);
    }

    private static void goingBack(JamBridge bridge) {
        bridge.saveSnapshot();
        bridge.removeLastSpan();
        bridge.undo();
        check.same("spans after undo", bridge.spanCount(), 2);
        check.same("spans after restoreSnapshot", bridge.restoreSnapshot(), 2);
        check.same("undoCount", bridge.undoCount(), 0);
    }
}
