/** Promises 46 to 49. */
public final class UndoTest {
    private static final Check check = new Check("UndoTest");

    public static void main(String[] args) {
        eachChange();
        eightAtMost();
        noChanges();
        notUndone();
        snapshots();
        snapshotsAndUndo();
        check.end();
    }

    private static void undone(String what, JamBridge bridge, Runnable change) {
        String before = Scene.all(bridge);
        int count = bridge.undoCount();
        change.run();
        check.yes(what + " changes", !Scene.all(bridge).equals(before));
        check.same("undoCount after " + what, bridge.undoCount(), Math.min(8, count + 1));
        check.same("undo of " + what, bridge.undo(), Math.min(8, count + 1) - 1);
        check.same("state after undo of " + what, Scene.all(bridge), before);
    }

    private static void eachChange() {
        JamBridge bridge = Scene.bridge(24, 4, 10);
        undone("addSpan", bridge, () -> bridge.addSpan(3));
        undone("removeLastSpan", bridge, bridge::removeLastSpan);
        undone("pour", bridge, () -> bridge.pour(0, 3));
        undone("enter", bridge, () -> bridge.enter(3));
        undone("setRate", bridge, () -> bridge.setRate(3));
        undone("pass", bridge, () -> bridge.pass(3));
        undone("execute", bridge, () -> Scene.run(bridge, "wait 3;rate 8;enter 5;wait 4;cut"));
        bridge.enter(60);
        undone("pass with a toll", bridge, () -> bridge.pass(1));
        JamBridge cracked = Scene.cracked(6);
        undone("mend", cracked, () -> cracked.mend(0, 5));
        undone("pass with cracks", cracked, () -> cracked.pass(48));
        cracked.enter(35);
        undone("pass with one that sinks", cracked, () -> cracked.pass(3));
        undone("pass with stress", cracked, () -> cracked.pass(1));
    }

    private static void eightAtMost() {
        JamBridge bridge = new JamBridge();
        check.same("none", bridge.undoCount(), 0);
        check.fails("undo of none", IllegalStateException.class, bridge::undo);
        for (int changes = 1; changes <= 20; changes++) {
            bridge.pass(changes);
            check.same("undoCount", bridge.undoCount(), Math.min(changes, 8));
        }
        int hour = 210;
        for (int left = 7; left >= 0; left--) {
            check.same("undo", bridge.undo(), left);
            hour -= 13 + left;
            check.same("hour", bridge.hour(), hour);
        }
        check.fails("a ninth undo", IllegalStateException.class, bridge::undo);
        check.same("hour stays", bridge.hour(), 78);
        bridge.pass(1);
        bridge.pass(2);
        check.same("undoCount anew", bridge.undoCount(), 2);
        bridge.undo();
        bridge.setRate(9);
        check.same("undoCount after another change", bridge.undoCount(), 2);
        bridge.undo();
        check.same("rate", bridge.rate(), 5);
        check.same("hour", bridge.hour(), 79);
        bridge.undo();
        check.same("hour at last", bridge.hour(), 78);
        check.fails("the forgotten stay so", IllegalStateException.class, bridge::undo);
    }

    private static void noChanges() {
        JamBridge bridge = Scene.bridge(24, 4, 10);
        int count = bridge.undoCount();
        check.fails("addSpan(0)", IllegalArgumentException.class, () -> bridge.addSpan(0));
        check.fails("setRate(5)", UnsupportedOperationException.class, () -> bridge.setRate(5));
        check.fails("pour(1, 1)", IndexOutOfBoundsException.class, () -> bridge.pour(1, 1));
        check.fails("pass(0)", IllegalArgumentException.class, () -> bridge.pass(0));
        check.fails("enter(61)", UnsupportedOperationException.class, () -> bridge.enter(61));
        check.fails("mend(0, 1)", UnsupportedOperationException.class, () -> bridge.mend(0, 1));
        check.fails("execute", IllegalArgumentException.class, bridge::execute);
        Scene.feed(bridge, "wait 1;span 0");
        check.fails("execute denied", UnsupportedOperationException.class, bridge::execute);
        Scene.feed(bridge, "wait x");
        check.fails("execute with a fault", IllegalArgumentException.class, bridge::execute);
        bridge.feed('c');
        bridge.writeSpan(0);
        bridge.writeBridge();
        bridge.hoursUntilBears(0, 1);
        bridge.saveSnapshot();
        check.same("undoCount", bridge.undoCount(), count);
        bridge.undo();
        check.same("the latest change is undone, not a refused one", bridge.hour(), 0);
    }

    private static void notUndone() {
        JamBridge bridge = Scene.bridge(24, 4, 10);
        Scene.feed(bridge, "rate");
        bridge.pass(1);
        bridge.writeBridge();
        check.fails("setRate(5)", UnsupportedOperationException.class, () -> bridge.setRate(5));
        bridge.undo();
        check.same("the buffer stays", bridge.feed(' '), 5);
        bridge.saveSnapshot();
        check.same("the buffer is fed", bridge.feed('7'), 6);
        bridge.restoreSnapshot();
        check.same("the buffer still stays", bridge.execute(), 1);
        check.same("its command", bridge.rate(), 7);
        check.same("the line stays", bridge.lineCharacter(0), '0');
        check.same("the denial stays", bridge.denial(), 7);
        bridge.undo();
        check.same("the executed text does not come back", bridge.feed('c'), 1);
    }

    private static void snapshots() {
        JamBridge bridge = new JamBridge();
        check.fails("no snapshot", IllegalStateException.class, bridge::restoreSnapshot);
        check.same("saveSnapshot of nothing", bridge.saveSnapshot(), 0);
        bridge.addSpan(4);
        bridge.addSpan(4);
        bridge.pour(0, 10);
        bridge.pass(24);
        bridge.enter(5);
        check.same("restoreSnapshot to nothing", bridge.restoreSnapshot(), 0);
        check.same("all of it", Scene.all(bridge), "0 5 0 0 0 0 0");
        check.same("the number of the next vehicle", firstNumber(bridge), 0);

        JamBridge cracked = Scene.cracked(7);
        String saved = Scene.all(cracked);
        check.same("saveSnapshot", cracked.saveSnapshot(), 2);
        cracked.mend(0, 5);
        cracked.enter(60);
        cracked.pass(48);
        check.yes("changed", !Scene.all(cracked).equals(saved));
        check.same("restoreSnapshot", cracked.restoreSnapshot(), 2);
        check.same("restored", Scene.all(cracked), saved);
        cracked.removeLastSpan();
        check.same("restored again", cracked.restoreSnapshot(), 2);
        check.same("the same", Scene.all(cracked), saved);
        cracked.pass(1);
        String later = Scene.all(cracked);
        cracked.saveSnapshot();
        cracked.pass(1);
        cracked.restoreSnapshot();
        check.same("the later snapshot replaces", Scene.all(cracked), later);
    }

    private static int firstNumber(JamBridge bridge) {
        bridge.addSpan(1);
        bridge.pour(0, 50);
        bridge.pass(1);
        return bridge.enter(1);
    }

    private static void snapshotsAndUndo() {
        JamBridge bridge = Scene.bridge(24, 4, 10);
        check.same("changes", bridge.undoCount(), 3);
        bridge.saveSnapshot();
        check.same("saving keeps them", bridge.undoCount(), 3);
        bridge.pass(5);
        bridge.undo();
        bridge.undo();
        check.same("hour", bridge.hour(), 0);
        check.same("the snapshot survives undo", bridge.restoreSnapshot(), 1);
        check.same("hour of the snapshot", bridge.hour(), 24);
        check.same("no change can be undone", bridge.undoCount(), 0);
        check.fails("undo", IllegalStateException.class, bridge::undo);
        bridge.pass(2);
        check.same("a change after it", bridge.undoCount(), 1);
        bridge.undo();
        check.same("back to the snapshot", bridge.hour(), 24);
        // A snapshot is a copy: undoing past it and changing anew leaves it as it was.
        bridge.enter(7);
        bridge.pass(1);
        bridge.saveSnapshot();
        bridge.undo();
        bridge.setRate(20);
        bridge.pass(3);
        bridge.restoreSnapshot();
        check.same("till of the snapshot", bridge.till(), 4);
        check.same("rate of the snapshot", bridge.rate(), 5);
    }
}
