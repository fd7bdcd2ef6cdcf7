/** Promise 18: the steps of an hour. */
public final class HourTest {
    private static final Check check = new Check("HourTest");

    public static void main(String[] args) {
        ages();
        queue();
        strengthForTheNext();
        lastSpan();
        agesBeforeMoving();
        stress();
        nineCracks();
        spreading();
        spreadingCountsBefore();
        spreadingNeedsMore();
        spreadingAtTheEnds();
        stressBeforeSpreading();
        sinking();
        sinkingTogether();
        check.end();
    }

    private static void ages() {
        JamBridge bridge = Scene.bridge(2, 4, 10, 4, 0);
        check.same("age with jars", bridge.age(0), 2);
        check.same("age without jars", bridge.age(1), 0);
        bridge.pour(1, 1);
        bridge.pass(1);
        check.same("age of later jars", bridge.age(1), 1);
        check.same("age of earlier jars", bridge.age(0), 3);
        check.same("hour", bridge.hour(), 3);
    }

    private static void queue() {
        // Two strong spans; span 1 bears 60 of the 3 * 30 behind one another.
        JamBridge bridge = Scene.bridge(24, 1, 50, 4, 10, 1, 50);
        bridge.enter(30);
        bridge.enter(30);
        bridge.enter(30);
        bridge.pass(1);
        check.same("0 moves", bridge.spanOf(0), 1);
        check.same("1 is lowest on the span when it is visited", bridge.spanOf(1), 1);
        check.same("2 is too heavy beside them", bridge.spanOf(2), 0);
        bridge.pass(1);
        check.same("0 goes on", bridge.spanOf(0), 2);
        check.same("1 goes on behind it", bridge.spanOf(1), 2);
        check.same("2 takes the place that became free", bridge.spanOf(2), 1);
        bridge.undo();
        bridge.undo();
        check.same("undone", bridge.spanOf(0), 0);

        // The lowest on a span waits, so that those behind it wait too, though they are light enough.
        JamBridge blocked = Scene.bridge(24, 1, 50, 4, 10);
        blocked.enter(61);
        blocked.enter(1);
        check.same("none passes", blocked.pass(2), 0);
        check.same("0 waits", blocked.spanOf(0), 0);
        check.same("1 waits behind it", blocked.spanOf(1), 0);
    }

    private static void strengthForTheNext() {
        JamBridge bridge = Scene.bridge(24, 1, 50, 4, 10, 1, 0);
        bridge.enter(20);
        bridge.pass(1);
        bridge.enter(40);
        bridge.pass(1);
        check.same("20 + 40 on 60", bridge.load(1), 60);
        bridge.enter(1);
        bridge.pass(1);
        check.same("20 + 40 + 1 is too much", bridge.spanOf(2), 0);
    }

    private static void lastSpan() {
        JamBridge bridge = Scene.bridge(24, 4, 10);
        bridge.enter(10);
        bridge.enter(20);
        bridge.enter(30);
        check.same("all leave the last span at once", bridge.pass(1), 3);
        check.same("tolls", bridge.till(), 5 + 10 + 15);
        check.same("vehicles", bridge.vehicleCount(), 0);
        // A vehicle moves onto the last span when those ahead have left it in the same hour.
        JamBridge two = Scene.bridge(24, 1, 50, 4, 10);
        two.enter(60);
        two.enter(60);
        check.same("first hour", two.pass(1), 0);
        check.same("second hour", two.pass(1), 1);
        check.same("the place is taken at once", two.spanOf(1), 1);
    }

    private static void agesBeforeMoving() {
        // Span 1 has strength 1 from age 20 on, and a vehicle moves in the very hour that makes it 20.
        JamBridge bridge = Scene.bridge(24, 1, 50, 20, 0);
        bridge.pour(1, 1);
        bridge.enter(1);
        bridge.pass(19);
        check.same("waits at age 19", bridge.spanOf(0), 0);
        bridge.pass(1);
        check.same("moves at age 20", bridge.spanOf(0), 1);
    }

    private static void stress() {
        JamBridge bridge = Scene.bridge(24, 12, 50, 1, 0);
        bridge.enter(80);
        bridge.pass(3);
        check.same("80 * 5 is not more than 100 * 4", bridge.stress(0), 0);
        bridge.enter(1);
        bridge.pass(2);
        check.same("81 * 5 is", bridge.stress(0), 2);
        bridge.pass(1);
        check.same("third hour", bridge.stress(0), 0);
        check.same("crack", bridge.cracks(0), 1);
        check.same("the other span", bridge.cracks(1) + bridge.stress(1), 0);

        // Stress becomes 0 in an hour without strain: here the vehicle has moved on after two hours.
        JamBridge eased = Scene.bridge(24, 12, 50, 12, 0);
        eased.pour(1, 50);
        eased.pass(19);
        eased.enter(85);
        eased.pass(1);
        check.same("strained for an hour", eased.stress(0), 1);
        eased.pass(1);
        check.same("eased", eased.stress(0), 0);
        check.same("no crack", eased.cracks(0), 0);
        check.same("the load strains the next one", eased.stress(1), 1);

        // The load counts after the moves of the same hour, and the strength after ageing.
        JamBridge young = Scene.bridge(8, 1, 6, 1, 0);
        young.enter(48);
        check.yes("strained at age 8", young.isStrained(0));
        young.pass(1);
        check.same("54 at age 9: 240 is more than 216", young.stress(0), 1);
        young.pass(1);
        check.same("60 at age 10: 240 is not more than 240", young.stress(0), 0);
    }

    private static void nineCracks() {
        JamBridge bridge = Scene.cracked(9);
        check.same("9 cracks", bridge.cracks(0), 9);
        check.same("all have sunk", bridge.vehicleCount(), 0);
        bridge.enter(10);
        bridge.pass(2);
        check.same("stress under 9 cracks", bridge.stress(0), 2);
        bridge.pass(1);
        check.same("stress is used up", bridge.stress(0), 0);
        check.same("still 9 cracks", bridge.cracks(0), 9);
        check.same("it is borne", bridge.vehicleCount(), 1);
    }

    private static void spreading() {
        // The fifth crack comes at hour 45, the sixth at hour 48, a multiple of 6.
        JamBridge bridge = Scene.cracked(5);
        check.same("hour", bridge.hour(), 45);
        check.same("5 cracks", bridge.cracks(0), 5);
        check.same("not spread in other hours", bridge.cracks(1), 0);
        bridge.pass(2);
        check.same("not spread at hour 47", bridge.cracks(1), 0);
        bridge.pass(1);
        check.same("spread at hour 48", bridge.cracks(1), 1);
        check.same("span 0 by stress alone", bridge.cracks(0), 6);
        bridge.addSpan(1);
        bridge.pass(5);
        check.same("not at hour 53", bridge.cracks(1), 1);
        bridge.pass(1);
        check.same("at hour 54", bridge.cracks(1), 2);
        check.same("not beyond neighbours", bridge.cracks(2), 0);
        Scene.pass(bridge, 18);
        check.same("at hour 72", bridge.cracks(1), 5);
        check.same("5 now, but all are counted before the step", bridge.cracks(2), 0);
        bridge.pass(6);
        check.same("up to 6", bridge.cracks(1), 6);
        check.same("the next one", bridge.cracks(2), 1);
        Scene.pass(bridge, 6 * 20);
        check.same("never more than the neighbour", bridge.cracks(1), 6);
        check.same("never more than the neighbour, span 2", bridge.cracks(2), 6);
        check.same("the source stays", bridge.cracks(0), 6);
        check.same("stress from nothing", bridge.stress(1), 0);
    }

    private static void spreadingCountsBefore() {
        // Cracks run to the left as well: span 1 is the cracked one here, span 0 and span 2 its neighbours.
        JamBridge bridge = Scene.bridge(24, 1, 50, 12, 50, 1, 0);
        for (int weight : new int[] {90, 70, 50}) {
            bridge.enter(weight);
            bridge.pass(7);
        }
        check.same("6 cracks", bridge.cracks(1), 6);
        check.same("all have sunk", bridge.sunk(), 3);
        int left = bridge.cracks(0);
        int right = bridge.cracks(2);
        check.same("both neighbours alike", left, right);
        bridge.addSpan(1);
        int untilNext = 6 - bridge.hour() % 6;
        bridge.pass(untilNext);
        check.same("left", bridge.cracks(0), left + 1);
        check.same("right", bridge.cracks(2), left + 1);
        Scene.pass(bridge, 6 * (4 - left));
        check.same("left has 5", bridge.cracks(0), 5);
        check.same("right has 5", bridge.cracks(2), 5);
        check.same("far right has none", bridge.cracks(3), 0);
    }

    private static void spreadingNeedsMore() {
        // 4 cracks do not spread.
        JamBridge four = Scene.cracked(4);
        Scene.pass(four, 48);
        check.same("4 stay", four.cracks(0), 4);
        check.same("4 do not spread", four.cracks(1), 0);
        // 9 spread up to 9, and no further.
        JamBridge nine = Scene.cracked(9);
        Scene.pass(nine, 6 * 12);
        check.same("9 spread", nine.cracks(1), 9);
        Scene.pass(nine, 12);
        check.same("9 stay", nine.cracks(1), 9);
        check.same("9 stay, span 0", nine.cracks(0), 9);
        // A mended span of 6 beside one of 9 gets its cracks anew.
        nine.mend(0, 9);
        check.same("mended", nine.cracks(0), 0);
        Scene.pass(nine, 6);
        check.same("from the right", nine.cracks(0), 1);
    }

    private static void spreadingAtTheEnds() {
        // Span 2 gets 6 cracks; when span 3 is removed, it is the last one, and span 0 is no neighbour of it.
        JamBridge bridge = Scene.bridge(24, 1, 50, 1, 50, 12, 50, 1, 0);
        for (int weight : new int[] {90, 70, 50}) {
            bridge.enter(weight);
            bridge.pass(8);
        }
        check.same("hour", bridge.hour(), 48);
        check.same("the last but one", bridge.cracks(2), 6);
        check.same("left of it", bridge.cracks(1), 1);
        check.same("right of it", bridge.cracks(3), 1);
        check.same("the first", bridge.cracks(0), 0);
        bridge.removeLastSpan();
        bridge.pass(6);
        check.same("left of the last one", bridge.cracks(1), 2);
        check.same("the first is no neighbour of the last", bridge.cracks(0), 0);

        // One span alone has no neighbour.
        JamBridge alone = Scene.cracked(6);
        alone.removeLastSpan();
        Scene.pass(alone, 48);
        check.same("no neighbour", alone.cracks(0), 6);
    }

    private static void stressBeforeSpreading() {
        // The fifth crack comes at hour 48 by stress, and spreads in the same hour.
        JamBridge bridge = Scene.cracked(4);
        bridge.pass(3);
        bridge.enter(50);
        bridge.pass(2);
        check.same("4 cracks at hour 47", bridge.cracks(0), 4);
        check.same("none beside them", bridge.cracks(1), 0);
        bridge.pass(1);
        check.same("5 cracks at hour 48", bridge.cracks(0), 5);
        check.same("1 beside them", bridge.cracks(1), 1);
    }

    private static void sinkingTogether() {
        // 87 + 4 + 4 + 4 on a strength that falls from 100 to 90.
        JamBridge bridge = Scene.bridge(24, 12, 50, 1, 0);
        for (int weight : new int[] {87, 4, 4, 4}) {
            bridge.enter(weight);
        }
        bridge.pass(2);
        check.same("all are borne by 100", bridge.vehicleCount(), 4);
        bridge.pass(1);
        check.same("three sink in one hour", bridge.sunk(), 3);
        check.same("the lowest number stays", bridge.vehicleAt(0), 0);
        check.same("the load that is left", bridge.load(0), 87);
    }

    private static void sinking() {
        // 30 + 25 + 26 on a strength that falls from 100 to 90 and to 80.
        JamBridge bridge = Scene.bridge(24, 12, 50, 1, 0);
        bridge.enter(30);
        bridge.enter(25);
        bridge.enter(26);
        bridge.pass(5);
        check.same("81 on 90", bridge.vehicleCount(), 3);
        bridge.pass(1);
        check.same("81 on 80", bridge.strength(0), 80);
        check.same("one sinks", bridge.sunk(), 1);
        check.same("the highest number is gone", bridge.vehicleCount(), 2);
        check.same("0 stays", bridge.vehicleAt(0), 0);
        check.same("1 stays", bridge.vehicleAt(1), 1);
        check.same("no toll", bridge.paidTolls(), 0);
        check.same("not crossed", bridge.crossed(), 0);
        // The load has to be greater: just the strength is borne.
        JamBridge exact = Scene.bridge(24, 12, 50, 1, 0);
        exact.enter(90);
        exact.pass(3);
        check.same("90 on 90", exact.vehicleCount(), 1);
        // Several sink in one hour, and only from the span that is too weak.
        JamBridge many = Scene.bridge(24, 1, 50, 12, 50, 1, 0);
        for (int weight : new int[] {50, 10, 10, 21}) {
            many.enter(weight);
        }
        many.pass(4);
        check.same("91 on 90 after the first crack", many.cracks(1), 1);
        check.same("the last one sinks", many.sunk(), 1);
        check.same("its number", many.vehicleAt(many.vehicleCount() - 1), 2);
        many.enter(3);
        many.pass(1);
        check.same("70 + 3 are strained", many.isStrained(1) ? 1 : 0, 1);
        many.enter(40);
        many.pass(2);
        check.same("the one that waits on span 0 stays", many.spanOf(5), 0);
    }
}
