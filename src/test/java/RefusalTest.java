import java.util.List;
import java.util.NoSuchElementException;
import java.util.function.Consumer;
import java.util.function.Supplier;

/** 'Terms', Exceptions: a call that is refused leaves everything as it was, and so does a call that only asks. */
public final class RefusalTest {
    private static final Check check = new Check("RefusalTest");
    private static final Class<IndexOutOfBoundsException> INDEX = IndexOutOfBoundsException.class;
    private static final Class<IllegalArgumentException> ARGUMENT = IllegalArgumentException.class;
    private static final Class<UnsupportedOperationException> DENIED = UnsupportedOperationException.class;
    private static final Class<NoSuchElementException> NO_ELEMENT = NoSuchElementException.class;
    private static final Class<ArithmeticException> ARITHMETIC = ArithmeticException.class;

    public static void main(String[] args) {
        withoutSpans();
        changesUnderVehicles();
        questionsUnderVehicles();
        limits();
        repairs();
        texts();
        withoutHistory();
        answers();
        check.end();
    }

    private static JamBridge empty() {
        return furnished(new JamBridge());
    }

    /** Two vehicles on span 0, one on span 1, and none of them can go on. */
    private static JamBridge laden() {
        JamBridge bridge = Scene.bridge(24, 1, 50, 4, 10, 3, 1);
        bridge.enter(40);
        bridge.pass(1);
        bridge.enter(30);
        bridge.enter(20);
        return furnished(bridge);
    }

    /** 5 cracks in span 0, and a vehicle that strains it and sinks later. */
    private static JamBridge cracked() {
        return furnished(Scene.cracked(5));
    }

    private static JamBridge eightVehicles() {
        JamBridge bridge = Scene.bridge(24, 1, 50, 1, 0);
        for (int number = 0; number < 8; number++) {
            bridge.enter(10 + number);
        }
        return furnished(bridge);
    }

    private static JamBridge tenSpans() {
        return furnished(Scene.bridge(3, 1, 50, 2, 1, 3, 2, 4, 3, 5, 4, 6, 5, 7, 6, 8, 7, 9, 8, 10, 9));
    }

    /** Something of all that a refused call could spoil. */
    private static JamBridge furnished(JamBridge bridge) {
        bridge.saveSnapshot();
        bridge.pass(1);
        Scene.feed(bridge, "spa1");
        check.fails("a fault", ARGUMENT, bridge::execute);
        Scene.feed(bridge, "span 0");
        check.fails("a denial with a cause", DENIED, bridge::execute);
        bridge.writeBridge();
        return bridge;
    }

    private static JamBridge withText(JamBridge bridge) {
        return Scene.feed(bridge, "rate 13");
    }

    private static void leaves(String what, Supplier<JamBridge> made, Class<? extends RuntimeException> due,
            Consumer<JamBridge> call) {
        JamBridge bridge = withText(made.get());
        check.fails(what, due, () -> call.accept(bridge));
        same(what, bridge, withText(made.get()), due != DENIED);
    }

    private static void same(String what, JamBridge got, JamBridge due, boolean denialsToo) {
        if (denialsToo) {
            check.same("denial after " + what, denial(got), denial(due));
        }
        check.same("state after " + what, story(got), story(due));
    }

    private static String denial(JamBridge bridge) {
        return bridge.denial() + " " + bridge.denialDetail() + " " + bridge.denialCause();
    }

    /** All that can be learnt of a bridge but its latest denial; the bridge is used up by it. */
    private static String story(JamBridge bridge) {
        StringBuilder story = new StringBuilder(wholeLine(bridge)).append(' ').append(bridge.faultPosition());
        story.append(' ').append(Scene.all(bridge)).append(' ').append(next(bridge));
        story.append(' ').append(executed(bridge)).append(Scene.all(bridge));
        while (bridge.undoCount() > 0) {
            story.append('\n').append(bridge.undo()).append(' ').append(Scene.all(bridge));
        }
        story.append('\n').append(bridge.restoreSnapshot()).append(' ').append(Scene.all(bridge));
        return story.append(' ').append(next(bridge)).toString();
    }

    private static String wholeLine(JamBridge bridge) {
        StringBuilder line = new StringBuilder();
        try {
            for (int index = 0; index < 1000; index++) {
                line.append(bridge.lineCharacter(index));
            }
        } catch (IndexOutOfBoundsException e) {
            line.append('.');
        }
        return line.toString();
    }

    private static String next(JamBridge bridge) {
        try {
            return "next " + bridge.enter(1);
        } catch (UnsupportedOperationException e) {
            return "no next";
        }
    }

    private static String executed(JamBridge bridge) {
        try {
            return "executed " + bridge.execute();
        } catch (IllegalArgumentException e) {
            return "fault " + bridge.faultPosition();
        }
    }

    private static void withoutSpans() {
        leaves("removeLastSpan()", RefusalTest::empty, DENIED, JamBridge::removeLastSpan);
        leaves("enter(1)", RefusalTest::empty, DENIED, b -> b.enter(1));
        leaves("setRate(5)", RefusalTest::empty, DENIED, b -> b.setRate(5));
        for (int wrong : new int[] {Integer.MIN_VALUE, -1, 100, Integer.MAX_VALUE}) {
            leaves("addSpan(" + wrong + ")", RefusalTest::empty, ARGUMENT, b -> b.addSpan(wrong));
            leaves("enter(" + wrong + ")", RefusalTest::empty, ARGUMENT, b -> b.enter(wrong));
            leaves("pass(" + wrong + ")", RefusalTest::empty, ARGUMENT, b -> b.pass(wrong));
            leaves("setRate(" + wrong + ")", RefusalTest::empty, ARGUMENT, b -> b.setRate(wrong));
        }
        leaves("pour(0, 1)", RefusalTest::empty, INDEX, b -> b.pour(0, 1));
        leaves("mend(0, 1)", RefusalTest::empty, INDEX, b -> b.mend(0, 1));
        leaves("load(0)", RefusalTest::empty, INDEX, b -> b.load(0));
        leaves("strength(0)", RefusalTest::empty, INDEX, b -> b.strength(0));
        leaves("hoursUntilBears(0, 1)", RefusalTest::empty, INDEX, b -> b.hoursUntilBears(0, 1));
        leaves("spanByStrength(0)", RefusalTest::empty, NO_ELEMENT, b -> b.spanByStrength(0));
        leaves("vehicleAt(0)", RefusalTest::empty, INDEX, b -> b.vehicleAt(0));
        leaves("hoursUntilOver(0)", RefusalTest::empty, NO_ELEMENT, b -> b.hoursUntilOver(0));
        leaves("meanStrength()", RefusalTest::empty, ARITHMETIC, JamBridge::meanStrength);
        leaves("sunkShare()", RefusalTest::empty, ARITHMETIC, JamBridge::sunkShare);
        leaves("writeSpan(0)", RefusalTest::empty, INDEX, b -> b.writeSpan(0));
        leaves("lineCharacter(0)", RefusalTest::empty, INDEX, b -> b.lineCharacter(0));
    }

    private static void changesUnderVehicles() {
        leaves("addSpan(5)", RefusalTest::laden, DENIED, b -> b.addSpan(5));
        leaves("removeLastSpan()", RefusalTest::laden, DENIED, JamBridge::removeLastSpan);
        leaves("pour(2, 1)", RefusalTest::laden, DENIED, b -> b.pour(2, 1));
        leaves("pour(3, 1)", RefusalTest::laden, INDEX, b -> b.pour(3, 1));
        leaves("pour(2, 51)", RefusalTest::laden, ARGUMENT, b -> b.pour(2, 51));
        leaves("mend(0, 1)", RefusalTest::laden, DENIED, b -> b.mend(0, 1));
        leaves("mend(0, 10)", RefusalTest::laden, ARGUMENT, b -> b.mend(0, 10));
        leaves("enter(0)", RefusalTest::laden, ARGUMENT, b -> b.enter(0));
        leaves("pass(0)", RefusalTest::laden, ARGUMENT, b -> b.pass(0));
        leaves("pass(49)", RefusalTest::laden, ARGUMENT, b -> b.pass(49));
        leaves("setRate(5)", RefusalTest::laden, DENIED, b -> b.setRate(5));
        leaves("enter(51)", RefusalTest::cracked, DENIED, b -> b.enter(51));
    }

    private static void questionsUnderVehicles() {
        leaves("hoursUntilBears(2, 9)", RefusalTest::laden, NO_ELEMENT, b -> b.hoursUntilBears(2, 9));
        leaves("hoursUntilBears(2, 0)", RefusalTest::laden, ARGUMENT, b -> b.hoursUntilBears(2, 0));
        leaves("hoursUntilBearsByDivision(2, 9)", RefusalTest::laden, NO_ELEMENT,
                b -> b.hoursUntilBearsByDivision(2, 9));
        leaves("spanByStrength(3)", RefusalTest::laden, NO_ELEMENT, b -> b.spanByStrength(3));
        leaves("vehicleAt(3)", RefusalTest::laden, INDEX, b -> b.vehicleAt(3));
        leaves("weightOf(3)", RefusalTest::laden, NO_ELEMENT, b -> b.weightOf(3));
        leaves("hoursUntilOver(2)", RefusalTest::laden, NO_ELEMENT, b -> b.hoursUntilOver(2));
        leaves("hoursUntilOver(3)", RefusalTest::laden, NO_ELEMENT, b -> b.hoursUntilOver(3));
        leaves("writeSpan(3)", RefusalTest::laden, INDEX, b -> b.writeSpan(3));
        leaves("lineCharacter(99)", RefusalTest::laden, INDEX, b -> b.lineCharacter(99));
        leaves("hoursUntilOver of one that sinks", RefusalTest::cracked, NO_ELEMENT,
                b -> b.hoursUntilOver(b.vehicleAt(0)));
    }

    private static void limits() {
        leaves("a ninth vehicle", RefusalTest::eightVehicles, DENIED, b -> b.enter(1));
        leaves("an 11th span", RefusalTest::tenSpans, DENIED, b -> b.addSpan(1));
        leaves("a 51st jar", RefusalTest::tenSpans, DENIED, b -> b.pour(0, 1));
        leaves("a 51st jar among many", RefusalTest::tenSpans, DENIED, b -> b.pour(1, 50));
        leaves("a 61st character", () -> Scene.feed(empty(), "wait 1;wait 2;wait 3;wait 14;wait 15;wait 16;wait 17;"),
                IllegalStateException.class, b -> b.feed('9'));
    }

    private static void repairs() {
        leaves("6 of 5 cracks", RefusalTest::cracked, DENIED, b -> b.mend(0, 6));
        leaves("a crack for 0 spoons", () -> {
            JamBridge poor = Scene.bridge(24, 12, 50, 1, 0);
            poor.enter(90);
            poor.pass(3);
            return furnished(poor);
        }, DENIED, b -> b.mend(0, 1));
    }

    /** A refused text is gone, and that is all; its fault lies where the one before it lay. */
    private static void texts() {
        String[] denied = {"wait 9;enter 1;wait 1;span 1;cut", "rate 9;rate 9", "wait 48;enter 99;enter 0", "pour 9 1"};
        for (String text : denied) {
            JamBridge bridge = Scene.feed(laden(), text);
            check.fails(text, DENIED, bridge::execute);
            same(text, bridge, laden(), false);
        }
        String[] faults = {"cut cut", "cutt", "spa", "cut,wait 1"};
        for (String text : faults) {
            JamBridge bridge = Scene.feed(laden(), text);
            check.fails(text, ARGUMENT, bridge::execute);
            same(text, bridge, laden(), true);
        }
    }

    private static void withoutHistory() {
        leaves("undo() of none", () -> {
            JamBridge bridge = laden();
            while (bridge.undoCount() > 0) {
                bridge.undo();
            }
            return bridge;
        }, IllegalStateException.class, JamBridge::undo);

        JamBridge bridge = Scene.bridge(24, 4, 10);
        String before = Scene.all(bridge);
        check.fails("restoreSnapshot() of none", IllegalStateException.class, bridge::restoreSnapshot);
        check.same("state after restoreSnapshot() of none", Scene.all(bridge), before);
        check.same("undoCount after restoreSnapshot() of none", bridge.undoCount(), 3);
    }

    private static void answers() {
        for (Supplier<JamBridge> made : List.<Supplier<JamBridge>>of(RefusalTest::laden, RefusalTest::cracked,
                RefusalTest::eightVehicles)) {
            JamBridge bridge = withText(made.get());
            askAll(bridge);
            same("questions", bridge, withText(made.get()), true);
        }
    }

    private static void askAll(JamBridge bridge) {
        for (int span = 0; span < bridge.spanCount(); span++) {
            bridge.isStrained(span);
            bridge.spanByStrength(span);
            if (bridge.strength(span) > 0) {
                bridge.hoursUntilBears(span, 1);
                bridge.hoursUntilBearsByDivision(span, 1);
            }
        }
        for (int position = 0; position < bridge.vehicleCount(); position++) {
            int vehicle = bridge.vehicleAt(position);
            bridge.tollOf(vehicle);
            if (bridge.spanOf(vehicle) > 0) {
                check.fails("it never gets over", NO_ELEMENT, () -> bridge.hoursUntilOver(vehicle));
            }
        }
        check.same("both sums", bridge.totalLoad(), bridge.totalLoadByVehicles());
        bridge.greatestWeight();
        bridge.meanStrength();
        bridge.undoCount();
    }
}
