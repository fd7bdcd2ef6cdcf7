import java.util.NoSuchElementException;

/** Promises 17 to 28, without the steps of an hour. */
public final class VehicleTest {
    private static final Check check = new Check("VehicleTest");

    public static void main(String[] args) {
        enter();
        numbers();
        pass();
        setRate();
        wrongVehicles();
        goneVehicles();
        queries();
        tolls();
        hoursUntilOver();
        loads();
        greatestWeight();
        check.end();
    }

    private static void enter() {
        JamBridge bridge = new JamBridge();
        bridge.pass(5);
        check.denied("no spans", bridge, 3, 5, () -> bridge.enter(99));
        for (int weight : new int[] {0, 100, -1, Integer.MIN_VALUE, Integer.MAX_VALUE}) {
            check.fails("enter(" + weight + ")", IllegalArgumentException.class, () -> bridge.enter(weight));
        }
        bridge.addSpan(4);
        check.denied("a span that bears nothing", bridge, 2, 0, () -> bridge.enter(1));
        bridge.pour(0, 10);
        bridge.pass(24);
        check.denied("61 on 60", bridge, 2, 60, () -> bridge.enter(61));
        check.same("60 on 60", bridge.enter(60), 0);
        check.same("on span 0", bridge.spanOf(0), 0);
        check.denied("1 more", bridge, 2, 0, () -> bridge.enter(1));
        bridge.undo();
        bridge.enter(25);
        check.denied("36 beside 25", bridge, 2, 35, () -> bridge.enter(36));
        check.same("35 beside 25", bridge.enter(35), 1);
        check.same("load", bridge.load(0), 60);
        check.same("greatest weight 99", Scene.bridge(24, 1, 50).enter(99), 0);

        JamBridge full = Scene.bridge(24, 4, 10, 4, 0);
        for (int number = 0; number < 8; number++) {
            check.same("enter", full.enter(1), number);
        }
        check.denied("a ninth vehicle", full, 1, 8, () -> full.enter(1));
        check.denied("the limit ahead of the load", full, 1, 8, () -> full.enter(99));
        check.same("vehicles", full.vehicleCount(), 8);
        check.fails("the weight ahead of the limit", IllegalArgumentException.class, () -> full.enter(100));
    }

    private static void numbers() {
        JamBridge bridge = Scene.bridge(24, 4, 10);
        check.same("first", bridge.enter(1), 0);
        bridge.pass(1);
        check.same("next, though the first has left", bridge.enter(1), 1);
        check.fails("denied", UnsupportedOperationException.class, () -> bridge.enter(99));
        check.same("a denied one takes no number", bridge.enter(1), 2);
        bridge.undo();
        check.same("the number is undone", bridge.enter(2), 2);
        JamBridge two = Scene.bridge(24, 4, 10, 4, 10);
        two.enter(1);
        two.pass(2);
        two.enter(1);
        check.same("on span 0, though the one before left from span 1", two.spanOf(1), 0);
    }

    private static void pass() {
        JamBridge bridge = new JamBridge();
        for (int hours : new int[] {0, 49, -1, Integer.MIN_VALUE, Integer.MAX_VALUE}) {
            check.fails("pass(" + hours + ")", IllegalArgumentException.class, () -> bridge.pass(hours));
        }
        check.same("hour after wrong ones", bridge.hour(), 0);
        check.same("pass(1)", bridge.pass(1), 0);
        check.same("pass(48)", bridge.pass(48), 0);
        check.same("hour", bridge.hour(), 49);
        JamBridge three = Scene.bridge(24, 4, 10, 4, 5);
        three.enter(10);
        three.enter(20);
        three.enter(30);
        check.same("none leaves at first", three.pass(1), 0);
        check.same("two leave", three.pass(1), 2);
        check.same("the third leaves", three.pass(48), 1);
        check.same("crossed", three.crossed(), 3);
        JamBridge sinking = Scene.cracked(3);
        sinking.undo();
        check.same("a vehicle that sinks does not leave", sinking.pass(48), 0);
        check.same("it has sunk", sinking.sunk(), 2);
    }

    private static void setRate() {
        JamBridge bridge = new JamBridge();
        for (int rate : new int[] {21, -1, Integer.MIN_VALUE, Integer.MAX_VALUE}) {
            check.fails("setRate(" + rate + ")", IllegalArgumentException.class, () -> bridge.setRate(rate));
        }
        check.denied("the present rate", bridge, 7, 5, () -> bridge.setRate(5));
        check.same("setRate(20)", bridge.setRate(20), 5);
        check.same("setRate(0)", bridge.setRate(0), 20);
        check.denied("0 again", bridge, 7, 0, () -> bridge.setRate(0));
        check.same("rate", bridge.rate(), 0);
    }

    private static void wrongVehicles() {
        JamBridge bridge = Scene.bridge(24, 4, 10, 4, 10);
        bridge.enter(1);
        bridge.pass(2);
        bridge.enter(2);
        for (int vehicle : new int[] {-1, 0, 2, Integer.MIN_VALUE, Integer.MAX_VALUE}) {
            noSuchVehicle("no vehicle", bridge, vehicle);
        }
        for (int position : new int[] {-1, 1, 8, Integer.MIN_VALUE, Integer.MAX_VALUE}) {
            check.fails("vehicleAt(" + position + ")", IndexOutOfBoundsException.class, () -> bridge.vehicleAt(position));
        }
        check.fails("vehicleAt(0) of none", IndexOutOfBoundsException.class, () -> new JamBridge().vehicleAt(0));
        noSuchVehicle("a bridge without spans", new JamBridge(), 0);
    }

    private static void noSuchVehicle(String why, JamBridge bridge, int vehicle) {
        String at = "(" + vehicle + "), " + why;
        Class<NoSuchElementException> due = NoSuchElementException.class;
        check.fails("weightOf" + at, due, () -> bridge.weightOf(vehicle));
        check.fails("spanOf" + at, due, () -> bridge.spanOf(vehicle));
        check.fails("tollOf" + at, due, () -> bridge.tollOf(vehicle));
        check.fails("hoursUntilOver" + at, due, () -> bridge.hoursUntilOver(vehicle));
    }

    private static void goneVehicles() {
        JamBridge left = Scene.bridge(24, 4, 10);
        left.enter(5);
        left.enter(6);
        left.pass(1);
        noSuchVehicle("it has left", left, 0);
        noSuchVehicle("it has left", left, 1);
        check.fails("no position", IndexOutOfBoundsException.class, () -> left.vehicleAt(0));

        // 60 + 36 on a strength that falls from 100 to 90.
        JamBridge sunk = Scene.bridge(24, 12, 50, 1, 0);
        sunk.enter(60);
        sunk.enter(36);
        sunk.pass(3);
        noSuchVehicle("it has sunk", sunk, 1);
        check.fails("no second position", IndexOutOfBoundsException.class, () -> sunk.vehicleAt(1));
        check.same("the other one stays", sunk.weightOf(0), 60);
        check.same("the sunk one's number is not used again", sunk.enter(1), 2);

        JamBridge undone = Scene.bridge(24, 4, 10);
        undone.enter(5);
        undone.undo();
        noSuchVehicle("its entering is undone", undone, 0);
        undone.saveSnapshot();
        undone.enter(5);
        undone.restoreSnapshot();
        noSuchVehicle("it is not in the snapshot", undone, 0);
    }

    private static void queries() {
        // Span 1 bears 24: 11 or 22, but not 22 + 7.
        JamBridge bridge = Scene.bridge(24, 4, 10, 4, 4);
        check.same("vehicleCount", bridge.vehicleCount(), 0);
        bridge.enter(11);
        bridge.pass(1);
        bridge.enter(22);
        bridge.enter(7);
        check.same("vehicleCount of three", bridge.vehicleCount(), 3);
        for (int position = 0; position < 3; position++) {
            check.same("vehicleAt", bridge.vehicleAt(position), position);
        }
        check.same("weightOf(0)", bridge.weightOf(0), 11);
        check.same("weightOf(1)", bridge.weightOf(1), 22);
        check.same("weightOf(2)", bridge.weightOf(2), 7);
        check.same("spanOf(0)", bridge.spanOf(0), 1);
        check.same("spanOf(1)", bridge.spanOf(1), 0);
        bridge.pass(1);
        check.same("vehicleAt(0) when 0 has left", bridge.vehicleAt(0), 1);
        check.same("vehicleAt(1) when 0 has left", bridge.vehicleAt(1), 2);
        check.same("weightOf(2) when 0 has left", bridge.weightOf(2), 7);
        check.same("spanOf(1) when 0 has left", bridge.spanOf(1), 1);
        check.same("spanOf(2) when 0 has left", bridge.spanOf(2), 0);
    }

    private static void tolls() {
        JamBridge bridge = Scene.bridge(24, 1, 50);
        bridge.enter(1);
        bridge.enter(2);
        bridge.enter(3);
        bridge.enter(99);
        check.same("1 * 5 / 10 rounded up", bridge.tollOf(0), 1);
        check.same("2 * 5 / 10", bridge.tollOf(1), 1);
        check.same("3 * 5 / 10 rounded up", bridge.tollOf(2), 2);
        check.same("99 * 5 / 10 rounded up", bridge.tollOf(3), 50);
        bridge.setRate(0);
        check.same("rate 0", bridge.tollOf(3), 0);
        bridge.setRate(20);
        check.same("rate 20", bridge.tollOf(3), 198);
        bridge.setRate(7);
        check.same("3 * 7 / 10 rounded up", bridge.tollOf(2), 3);
        bridge.pass(1);
        check.same("till by the rate at leaving", bridge.till(), 1 + 2 + 3 + 70);
    }

    private static void hoursUntilOver() {
        JamBridge bridge = Scene.bridge(24, 4, 10, 4, 9, 4, 10);
        bridge.enter(30);
        bridge.enter(30);
        check.same("three spans", bridge.hoursUntilOver(0), 3);
        check.same("the one behind", bridge.hoursUntilOver(1), 4);
        check.same("nothing has passed", bridge.hour(), 24);
        check.same("both are where they were", bridge.load(0), 60);
        check.same("nothing more can be undone", bridge.undoCount(), 8);
        bridge.pass(3);
        check.same("on the last span", bridge.hoursUntilOver(1), 1);

        // 1 jar on 20: the vehicle waits until span 1 has strength 1 * 20 / 20.
        JamBridge waiting = Scene.bridge(24, 1, 50);
        waiting.addSpan(20);
        waiting.pour(1, 1);
        waiting.enter(1);
        check.same("waits for the span to set", waiting.hoursUntilOver(0), 21);
        check.same("so it is", waiting.pass(20), 0);
        check.same("so it is then", waiting.pass(1), 1);

        JamBridge stuck = Scene.rich();
        stuck.enter(1);
        check.fails("never", NoSuchElementException.class, () -> stuck.hoursUntilOver(2));

        JamBridge sinking = Scene.cracked(3);
        check.yes("it will sink", sinking.vehicleCount() == 1);
        check.fails("sinking is not leaving", NoSuchElementException.class,
                () -> sinking.hoursUntilOver(sinking.vehicleAt(0)));

        // The last vehicle leaves in hour 54, when those ahead of it have sunk.
        check.same("not yet after 53 hours", slow(53).crossed(), 0);
        check.same("over after 54 hours", slow(54).crossed(), 1);
        check.same("sunk ahead of it", slow(54).sunk(), 5);
        check.same("1 hour", slow(53).hoursUntilOver(5), 1);
        check.same("48 hours", slow(6).hoursUntilOver(5), 48);
        check.fails("49 hours", NoSuchElementException.class, () -> slow(5).hoursUntilOver(5));
        check.fails("54 hours", NoSuchElementException.class, () -> slow(0).hoursUntilOver(5));
    }

    /**
     * Ten spans of which span 1 sets yet, and span 2 bears little: the vehicles ahead of the last one wait on
     * span 1, one after the other, until it cracks under them and they sink.
     */
    private static JamBridge slow(int hours) {
        JamBridge bridge = Scene.bridge(24, 1, 50, 12, 0, 2, 1, 1, 50, 1, 50, 1, 50, 1, 50, 1, 50, 1, 50, 1, 50);
        bridge.pour(1, 50);
        for (int weight : new int[] {85, 66, 49, 35, 26, 5}) {
            bridge.enter(weight);
        }
        Scene.pass(bridge, hours);
        return bridge;
    }

    private static void loads() {
        check.same("totalLoad without spans", new JamBridge().totalLoad(), 0);
        check.same("totalLoadByVehicles without spans", new JamBridge().totalLoadByVehicles(), 0);
        JamBridge bridge = Scene.bridge(24, 4, 10, 4, 10);
        bridge.enter(9);
        bridge.pass(2);
        check.same("totalLoad of none", bridge.totalLoad(), 0);
        check.same("totalLoadByVehicles of none", bridge.totalLoadByVehicles(), 0);
        bridge.enter(11);
        bridge.pass(1);
        bridge.enter(22);
        bridge.enter(7);
        check.same("totalLoad", bridge.totalLoad(), 40);
        check.same("totalLoadByVehicles", bridge.totalLoadByVehicles(), 40);
        check.same("load(0)", bridge.load(0), 29);
        check.same("load(1)", bridge.load(1), 11);
        JamBridge heaviest = Scene.bridge(24, 1, 50);
        for (int number = 0; number < 8; number++) {
            heaviest.enter(99);
        }
        check.same("totalLoad of eight", heaviest.totalLoad(), 792);
        check.same("totalLoadByVehicles of eight", heaviest.totalLoadByVehicles(), 792);
    }

    private static void greatestWeight() {
        JamBridge bridge = new JamBridge();
        check.same("no spans", bridge.greatestWeight(), 0);
        bridge.addSpan(4);
        check.same("no strength", bridge.greatestWeight(), 0);
        bridge.pour(0, 10);
        bridge.pass(24);
        check.same("60", bridge.greatestWeight(), 60);
        bridge.enter(21);
        check.same("39 beside 21", bridge.greatestWeight(), 39);
        bridge.enter(39);
        check.same("none beside 60", bridge.greatestWeight(), 0);
        JamBridge strong = Scene.bridge(24, 1, 50, 1, 0);
        check.same("at most 99", strong.greatestWeight(), 99);
        for (int number = 0; number < 7; number++) {
            strong.enter(1);
        }
        check.same("beside seven", strong.greatestWeight(), 99);
        strong.enter(1);
        check.same("beside eight", strong.greatestWeight(), 0);
    }
}
