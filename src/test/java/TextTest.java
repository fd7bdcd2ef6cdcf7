import java.util.NoSuchElementException;

/** Promises 37 to 42. */
public final class TextTest {
    private static final Check check = new Check("TextTest");

    public static void main(String[] args) {
        feed();
        commands();
        faults();
        faultIsKept();
        allOrNone();
        emptiedAlways();
        longText();
        writeSpan();
        writeBridge();
        lineCharacter();
        check.end();
    }

    private static void feed() {
        JamBridge bridge = new JamBridge();
        for (int length = 1; length <= 60; length++) {
            check.same("feed", bridge.feed((char) (length * 1000)), length);
        }
        check.fails("a 61st character", IllegalStateException.class, () -> bridge.feed('c'));
        check.fails("and again", IllegalStateException.class, () -> bridge.feed('c'));
        check.fails("execute", IllegalArgumentException.class, bridge::execute);
        check.same("empty afterwards", bridge.feed('c'), 1);
        check.same("undoCount", bridge.undoCount(), 0);
    }

    private static void commands() {
        JamBridge bridge = new JamBridge();
        check.same("span 7", Scene.run(bridge, "span 7"), 1);
        check.same("spanCount", bridge.spanCount(), 1);
        check.same("span 04;span 20", Scene.run(bridge, "span 04;span 20"), 2);
        check.same("lengths", Scene.span(bridge, 1) + Scene.span(bridge, 2), "1:4j0h0=02:20j0h0=0");
        check.same("pour 1 10", Scene.run(bridge, "pour 1 10"), 1);
        check.same("pour 0 9", Scene.run(bridge, "pour 0 9"), 1);
        check.same("jars", bridge.jars(1) * 100 + bridge.jars(0), 1009);
        check.same("cut", Scene.run(bridge, "cut"), 1);
        check.same("spanCount after cut", bridge.spanCount(), 2);
        check.same("wait 48", Scene.run(bridge, "wait 48"), 1);
        check.same("wait 2", Scene.run(bridge, "wait 2"), 1);
        check.same("hour", bridge.hour(), 50);
        check.same("enter 12;enter 3", Scene.run(bridge, "enter 12;enter 3"), 2);
        check.same("weights", bridge.weightOf(0) * 100 + bridge.weightOf(1), 1203);
        check.same("rate 20", Scene.run(bridge, "rate 20"), 1);
        check.same("rate", bridge.rate(), 20);
        check.same("rate 0", Scene.run(bridge, "rate 0"), 1);
        check.same("rate 0", bridge.rate(), 0);
        JamBridge cracked = Scene.cracked(2);
        check.same("mend 0 2", Scene.run(cracked, "mend 0 2"), 1);
        check.same("cracks", cracked.cracks(0), 0);
        check.same("till", cracked.till(), 190);
    }

    private static void fault(String text, int position) {
        JamBridge bridge = new JamBridge();
        Scene.feed(bridge, text);
        check.fails("execute of '" + text + "'", IllegalArgumentException.class, bridge::execute);
        check.same("faultPosition of '" + text + "'", bridge.faultPosition(), position);
        check.same("undoCount after '" + text + "'", bridge.undoCount(), 0);
        check.fails("denial after '" + text + "'", NoSuchElementException.class, bridge::denial);
    }

    private static void faults() {
        fault("", 0);
        fault("x", 0);
        fault(" ", 0);
        fault(";", 0);
        fault("c", 1);
        fault("cu", 2);
        fault("cut;", 4);
        fault("cut ", 3);
        fault("cutt", 3);
        fault("cut;;", 4);
        fault("cut;x", 4);
        fault("cut; cut", 4);
        fault("Cut", 0);
        fault("span", 4);
        fault("span ", 5);
        fault("span  1", 5);
        fault("span x", 5);
        fault("span 123", 7);
        fault("span 12;", 8);
        fault("span 1 ", 6);
        fault("span 1;span", 11);
        fault("span -1", 5);
        fault("span\t1", 4);
        fault("spam 1", 3);
        fault("pour 1", 6);
        fault("pour 12 3", 6);
        fault("pour 1 ", 7);
        fault("pour 1;", 6);
        fault("pour 1 234", 9);
        fault("pour 1 2 3", 8);
        fault("mend 1 22", 8);
        fault("mend 11 2", 6);
        fault("mend 1", 6);
        fault("mend 1 ", 7);
        fault("mend 1 x", 7);
        fault("enter 5x", 7);
        fault("enter 55x", 8);
        fault("rate :", 5);
        fault("rate /", 5);
        fault("wait \u0664", 5);
        fault("wait 1\u0000", 6);
        fault("\uffff", 0);
        fault("s;cut", 1);
        fault("cut;cut;cut;cut;cut;cut;cut;cut;cut;cut;cut;cut;cut;cut;cut;", 60);
        fault("span 1;span 1;span 1;span 1;span 1;span 1;span 1;span 1;spam", 59);
    }

    private static void faultIsKept() {
        JamBridge bridge = new JamBridge();
        check.fails("none yet", NoSuchElementException.class, bridge::faultPosition);
        Scene.run(bridge, "span 1");
        check.fails("none by a text that matches", NoSuchElementException.class, bridge::faultPosition);
        Scene.feed(bridge, "span 0");
        check.denied("none by a denied text", bridge, 8, 0, bridge::execute);
        check.fails("still none", NoSuchElementException.class, bridge::faultPosition);
        Scene.feed(bridge, "spa1");
        check.fails("a fault", IllegalArgumentException.class, bridge::execute);
        check.same("kept", bridge.faultPosition(), 3);
        Scene.run(bridge, "span 1");
        check.same("kept over a text that matches", bridge.faultPosition(), 3);
        Scene.feed(bridge, "span 0");
        check.denied("a denied text", bridge, 8, 0, bridge::execute);
        check.same("kept over a denied text", bridge.faultPosition(), 3);
        bridge.saveSnapshot();
        check.same("kept over a snapshot", bridge.faultPosition(), 3);
        bridge.undo();
        check.same("kept over undo", bridge.faultPosition(), 3);
        bridge.saveSnapshot();
        Scene.feed(bridge, "span");
        check.fails("a text shorter than the one before", IllegalArgumentException.class, bridge::execute);
        check.same("its end", bridge.faultPosition(), 4);
        check.fails("another fault", IllegalArgumentException.class, bridge::execute);
        bridge.restoreSnapshot();
        check.same("kept over a restored snapshot", bridge.faultPosition(), 0);
    }

    private static void allOrNone() {
        JamBridge bridge = Scene.bridge(24, 4, 10);
        String before = Scene.all(bridge);
        Scene.feed(bridge, "enter 5;wait 1;rate 9;enter 61;cut");
        check.denied("enter 61", bridge, 8, 3, bridge::execute);
        check.same("its cause", bridge.denialCause(), 2);
        check.same("nothing is executed", Scene.all(bridge), before);
        check.same("undoCount", bridge.undoCount(), 3);
        check.same("the number is not taken", bridge.enter(1), 0);
        bridge.undo();
        // Later commands see what the earlier ones did.
        check.same("span, pour, wait, enter", Scene.run(bridge, "cut;span 1;pour 0 50;wait 2;enter 99"), 5);
        check.same("load", bridge.load(0), 99);
        check.same("one change", bridge.undoCount(), 4);
        bridge.undo();
        check.same("undone as one", Scene.all(bridge), before);
    }

    private static void emptiedAlways() {
        JamBridge bridge = new JamBridge();
        Scene.run(bridge, "span 1");
        check.same("after success", bridge.feed('x'), 1);
        check.fails("fault", IllegalArgumentException.class, bridge::execute);
        check.same("after a fault", bridge.feed('c'), 1);
        Scene.feed(bridge, "ut;cut");
        check.denied("second cut", bridge, 8, 1, bridge::execute);
        check.same("after a denial", bridge.feed('c'), 1);
    }

    private static void longText() {
        JamBridge bridge = new JamBridge();
        String text = "span 1;span 2;span 3;span 4;span 5;span 6;span 7;span 10;cut";
        check.same("60 characters", text.length(), 60);
        Scene.feed(bridge, text);
        check.fails("a 61st character", IllegalStateException.class, () -> bridge.feed(';'));
        check.same("9 commands, whatever was refused", bridge.execute(), 9);
        check.same("spans", bridge.spanCount(), 7);
        Scene.run(bridge, "span 1;span 1;span 1");
        Scene.feed(bridge, "cut;cut;cut;cut;cut;cut;cut;cut;cut;cut;cut;cut;cut;cut;cut");
        check.denied("the 11th of 15 commands", bridge, 8, 10, bridge::execute);
        check.same("its cause", bridge.denialCause(), 3);
        check.same("spans after it", bridge.spanCount(), 10);
        check.same("10 commands", Scene.run(bridge, "cut;cut;cut;cut;cut;cut;cut;cut;cut;cut"), 10);
        check.same("no spans", bridge.spanCount(), 0);
    }

    private static void writeSpan() {
        JamBridge bridge = Scene.bridge(24, 20, 50, 4, 10);
        check.same("a span", Scene.span(bridge, 1), "1:4j10h24=60");
        check.same("its length", bridge.writeSpan(1), 12);
        Scene.pass(bridge, 100);
        check.same("a greater age", Scene.span(bridge, 0), "0:20j50h124=60");
        bridge.enter(20);
        bridge.enter(3);
        bridge.pass(1);
        bridge.enter(9);
        check.same("span 0", Scene.span(bridge, 0), "0:20j50h125=60 2w9");
        check.same("span 1", Scene.span(bridge, 1), "1:4j10h125=60 0w20 1w3");
        Scene.line(bridge, bridge.writeSpan(0));
        check.fails("no such span", IndexOutOfBoundsException.class, () -> bridge.writeSpan(2));
        check.same("the line stays", Scene.line(bridge, 18), "0:20j50h125=60 2w9");
        check.same("cracks", Scene.span(Scene.cracked(1), 0), "0:12j50h33=90/ 2w90");
        check.same("more cracks", Scene.span(Scene.cracked(9), 0), "0:12j50h57=10/////////");
        check.same("no jars", Scene.span(Scene.cracked(9), 1), "1:1j0h0=0//");
        JamBridge full = Scene.bridge(24, 1, 50, 1, 0);
        for (int number = 0; number < 8; number++) {
            full.enter(99);
        }
        check.same("eight vehicles", Scene.span(full, 0), "0:1j50h24=1200 0w99 1w99 2w99 3w99 4w99 5w99 6w99 7w99");
    }

    private static void writeBridge() {
        JamBridge bridge = new JamBridge();
        check.same("no spans", bridge.writeBridge(), 0);
        bridge.addSpan(4);
        check.same("one span", Scene.line(bridge, bridge.writeBridge()), "0");
        bridge.addSpan(4);
        bridge.addSpan(4);
        bridge.pour(0, 20);
        bridge.pour(1, 10);
        bridge.pass(24);
        bridge.enter(49);
        bridge.pass(1);
        bridge.enter(12);
        check.same("three spans", Scene.line(bridge, bridge.writeBridge()), "12|49!|0");
        check.same("its length", bridge.writeBridge(), 8);
        bridge.enter(85);
        check.same("two strained", Scene.line(bridge, bridge.writeBridge()), "97!|49!|0");
        bridge.undo();
        check.same("line after undo", Scene.line(bridge, 9), "97!|49!|0");
        check.same("replaced by another one", bridge.writeSpan(2), 9);
        check.fails("its end", IndexOutOfBoundsException.class, () -> bridge.lineCharacter(9));
        JamBridge ten = Scene.bridge(24, 1, 50, 1, 0, 1, 0, 1, 0, 1, 0, 1, 0, 1, 0, 1, 0, 1, 0, 1, 0);
        ten.enter(99);
        check.same("ten spans", Scene.line(ten, ten.writeBridge()), "99|0|0|0|0|0|0|0|0|0");
        JamBridge empty = Scene.bridge(0, 4, 1);
        empty.writeSpan(0);
        empty.removeLastSpan();
        check.same("empty line", empty.writeBridge(), 0);
        check.fails("no character", IndexOutOfBoundsException.class, () -> empty.lineCharacter(0));
    }

    private static void lineCharacter() {
        JamBridge bridge = Scene.bridge(24, 4, 10);
        check.fails("initially empty", IndexOutOfBoundsException.class, () -> bridge.lineCharacter(0));
        int length = bridge.writeSpan(0);
        check.same("first", bridge.lineCharacter(0), '0');
        check.same("second", bridge.lineCharacter(1), ':');
        check.same("last", bridge.lineCharacter(length - 1), '0');
        for (int index : new int[] {-1, length, 60, Integer.MIN_VALUE, Integer.MAX_VALUE}) {
            check.fails("lineCharacter(" + index + ")", IndexOutOfBoundsException.class,
                    () -> bridge.lineCharacter(index));
        }
        bridge.saveSnapshot();
        bridge.writeBridge();
        bridge.restoreSnapshot();
        check.same("the line is not restored", bridge.lineCharacter(0), '0');
        check.fails("nor its length", IndexOutOfBoundsException.class, () -> bridge.lineCharacter(1));
    }
}
