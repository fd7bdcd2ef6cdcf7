/** Promises 29 to 36. */
public final class AccountTest {
    private static final Check check = new Check("AccountTest");

    public static void main(String[] args) {
        fresh();
        hourAndRate();
        tolls();
        crossedAndSunk();
        meanStrength();
        sunkShare();
        check.end();
    }

    private static void fresh() {
        JamBridge bridge = new JamBridge();
        check.same("hour", bridge.hour(), 0);
        check.same("rate", bridge.rate(), 5);
        check.same("till", bridge.till(), 0);
        check.same("paidTolls", bridge.paidTolls(), 0);
        check.same("crossed", bridge.crossed(), 0);
        check.same("sunk", bridge.sunk(), 0);
        check.fails("meanStrength", ArithmeticException.class, bridge::meanStrength);
        check.fails("sunkShare", ArithmeticException.class, bridge::sunkShare);
    }

    private static void hourAndRate() {
        JamBridge bridge = new JamBridge();
        bridge.pass(1);
        bridge.pass(48);
        check.same("hour", bridge.hour(), 49);
        bridge.setRate(13);
        check.same("rate", bridge.rate(), 13);
    }

    private static void tolls() {
        JamBridge bridge = Scene.cracked(2);
        check.same("till", bridge.till(), 200);
        check.same("paidTolls", bridge.paidTolls(), 200);
        bridge.mend(0, 2);
        check.same("till after repairs", bridge.till(), 190);
        check.same("paidTolls after repairs", bridge.paidTolls(), 200);
        JamBridge free = Scene.bridge(24, 1, 50);
        free.setRate(0);
        free.enter(99);
        free.pass(1);
        check.same("no toll at rate 0", free.till(), 0);
        check.same("crossed at rate 0", free.crossed(), 1);
    }

    private static void crossedAndSunk() {
        JamBridge bridge = Scene.cracked(2);
        check.same("crossed", bridge.crossed(), 2);
        check.same("sunk", bridge.sunk(), 1);
        JamBridge more = Scene.cracked(9);
        check.same("crossed stays", more.crossed(), 2);
        check.same("sunk of six", more.sunk(), 6);
    }

    private static void meanStrength() {
        JamBridge bridge = Scene.bridge(24, 4, 10, 1, 1, 1, 0);
        check.same("(60 + 24 + 0) / 3", bridge.meanStrength(), 28.0);
        bridge.pour(2, 1);
        bridge.pass(1);
        check.same("(60 + 24 + 1) / 3", bridge.meanStrength(), 85.0 / 3.0);
        check.same("one span", Scene.bridge(7, 3, 1).meanStrength(), 2.0);
        check.same("0", Scene.bridge(7, 3, 0).meanStrength(), 0.0);
        bridge.removeLastSpan();
        bridge.removeLastSpan();
        bridge.removeLastSpan();
        check.fails("no spans again", ArithmeticException.class, bridge::meanStrength);
    }

    private static void sunkShare() {
        JamBridge bridge = Scene.bridge(24, 1, 50);
        bridge.enter(5);
        check.fails("one on the bridge", ArithmeticException.class, bridge::sunkShare);
        bridge.pass(1);
        check.same("none of one", bridge.sunkShare(), 0.0);
        check.same("1 of 3", Scene.cracked(2).sunkShare(), (double) (1f / 3f));
        check.same("6 of 8", Scene.cracked(9).sunkShare(), 0.75);
        JamBridge all = Scene.bridge(24, 12, 50, 1, 0);
        all.enter(95);
        all.pass(3);
        check.same("1 of 1", all.sunkShare(), 1.0);
    }
}
