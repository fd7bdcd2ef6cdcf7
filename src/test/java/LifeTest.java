import java.util.NoSuchElementException;

/** A whole life of 512 calls, with the greatest numbers that it can reach, and several lives side by side. */
public final class LifeTest {
    private static final Check check = new Check("LifeTest");

    public static void main(String[] args) {
        greatestAge();
        greatestTill();
        manyNumbers();
        undoAllAlong();
        sideBySide();
        check.end();
    }

    private static void greatestAge() {
        JamBridge bridge = new JamBridge();
        bridge.addSpan(1);
        bridge.pour(0, 49);
        for (int call = 3; call <= 502; call++) {
            bridge.pass(48);
        }
        check.same("hour", bridge.hour(), 24000);
        check.same("age", bridge.age(0), 24000);
        check.same("strength is that of 24 hours", bridge.strength(0), 49 * 24);
        check.same("age is kept whole: 24000 * 49 / 50", bridge.pour(0, 1), 23520);
        check.same("line", Scene.span(bridge, 0), "0:1j50h23520=1200");
    }

    private static void greatestTill() {
        // Eight vehicles of weight 99 at rate 20 pay 8 * 198 spoons an hour.
        JamBridge bridge = Scene.bridge(24, 1, 50);
        bridge.setRate(20);
        for (int hours = 1; hours <= 55; hours++) {
            for (int number = 0; number < 8; number++) {
                bridge.enter(99);
            }
            check.same("all leave", bridge.pass(1), 8);
        }
        check.same("till", bridge.till(), 55 * 8 * 198);
        check.same("paidTolls", bridge.paidTolls(), 55 * 8 * 198);
        check.same("crossed", bridge.crossed(), 440);
        check.same("sunk", bridge.sunk(), 0);
        check.same("none of 440", bridge.sunkShare(), 0.0);
        check.same("the next number", bridge.enter(1), 440);
    }

    private static void manyNumbers() {
        // Undone numbers are given again, all others are not.
        JamBridge bridge = Scene.bridge(24, 1, 50);
        for (int number = 0; number < 120; number++) {
            check.same("enter", bridge.enter(1), number);
            bridge.pass(1);
            check.same("the one after it", bridge.enter(2), number + 1);
            bridge.undo();
        }
        check.same("crossed", bridge.crossed(), 120);
    }

    /** The eight kept changes go round and round, with undoing in between. */
    private static void undoAllAlong() {
        JamBridge bridge = new JamBridge();
        int hour = 0;
        int count = 0;
        for (int round = 0; round < 40; round++) {
            for (int hours = 1; hours <= 3 + round % 7; hours++) {
                bridge.pass(hours);
                hour += hours;
                count = Math.min(8, count + 1);
            }
            check.same("undo", bridge.undo(), count - 1);
            bridge.undo();
            count -= 2;
            int longest = 3 + round % 7;
            hour -= longest + longest - 1;
            check.same("hour", bridge.hour(), hour);
            check.same("undoCount", bridge.undoCount(), count);
        }
    }

    private static void sideBySide() {
        JamBridge used = Scene.cracked(5);
        used.saveSnapshot();
        used.writeBridge();
        Scene.feed(used, "spa1");
        check.fails("a fault", IllegalArgumentException.class, used::execute);
        Scene.feed(used, "span 0");
        check.fails("a denial with a cause", UnsupportedOperationException.class, used::execute);
        used.feed('c');
        String before = Scene.all(used);

        JamBridge fresh = new JamBridge();
        check.same("all of a fresh one", Scene.all(fresh), "0 5 0 0 0 0 0");
        check.fails("its line", IndexOutOfBoundsException.class, () -> fresh.lineCharacter(0));
        check.fails("its fault", NoSuchElementException.class, fresh::faultPosition);
        check.fails("its denial", NoSuchElementException.class, fresh::denial);
        check.fails("its denial's detail", NoSuchElementException.class, fresh::denialDetail);
        check.fails("its denial's cause", NoSuchElementException.class, fresh::denialCause);
        check.fails("its undo", IllegalStateException.class, fresh::undo);
        check.fails("its snapshot", IllegalStateException.class, fresh::restoreSnapshot);
        check.same("its text", fresh.feed('x'), 1);

        fresh.pass(3);
        fresh.saveSnapshot();
        check.fails("its own denial", UnsupportedOperationException.class, () -> fresh.setRate(5));
        check.same("the other's state", Scene.all(used), before);
        check.same("the other's denial", used.denial() * 100 + used.denialDetail(), 800);
        check.same("the other's cause", used.denialCause(), 9);
        check.same("the other's fault", used.faultPosition(), 3);
        check.same("the other's text", used.feed('u'), 2);
        check.same("the other's snapshot", used.restoreSnapshot(), 2);
        check.same("the other's state again", Scene.all(used), before);
    }
}
