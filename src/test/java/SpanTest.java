import java.util.NoSuchElementException;

/** Promises 1 to 16. */
public final class SpanTest {
    private static final Check check = new Check("SpanTest");

    public static void main(String[] args) {
        newObject();
        addSpan();
        removeLastSpan();
        pour();
        pouredAge();
        mend();
        keptStress();
        wrongSpans();
        removedSpan();
        spanQueries();
        strength();
        strained();
        hoursUntilBears();
        bearsBothWays();
        spanByStrength();
        check.end();
    }

    private static void newObject() {
        JamBridge bridge = new JamBridge();
        check.same("all of a new bridge", Scene.all(bridge), "0 5 0 0 0 0 0");
        check.same("vehicles of a new bridge", bridge.vehicleCount(), 0);
        check.same("undoCount of a new bridge", bridge.undoCount(), 0);
        check.fails("denial of a new bridge", NoSuchElementException.class, bridge::denial);
        check.fails("faultPosition of a new bridge", NoSuchElementException.class, bridge::faultPosition);
        check.fails("lineCharacter of a new bridge", IndexOutOfBoundsException.class, () -> bridge.lineCharacter(0));
        check.fails("restoreSnapshot of a new bridge", IllegalStateException.class, bridge::restoreSnapshot);
    }

    private static void addSpan() {
        JamBridge bridge = new JamBridge();
        check.same("addSpan(1)", bridge.addSpan(1), 0);
        check.same("addSpan(20)", bridge.addSpan(20), 1);
        check.same("new span", Scene.span(bridge, 1), "1:20j0h0=0");
        for (int length : new int[] {0, 21, -1, Integer.MIN_VALUE, Integer.MAX_VALUE}) {
            check.fails("addSpan(" + length + ")", IllegalArgumentException.class, () -> bridge.addSpan(length));
        }
        check.same("spanCount after wrong lengths", bridge.spanCount(), 2);
        for (int span = 2; span < 10; span++) {
            check.same("addSpan", bridge.addSpan(5), span);
        }
        check.denied("an 11th span", bridge, 1, 10, () -> bridge.addSpan(5));
        check.fails("a length out of range ahead of the limit", IllegalArgumentException.class, () -> bridge.addSpan(21));
        check.same("spanCount at the limit", bridge.spanCount(), 10);
        bridge.pour(0, 50);
        bridge.pass(48);
        bridge.enter(3);
        bridge.enter(4);
        check.denied("vehicles ahead of the limit", bridge, 4, 2, () -> bridge.addSpan(5));
        check.fails("a length out of range ahead of vehicles", IllegalArgumentException.class, () -> bridge.addSpan(0));
    }

    private static void removeLastSpan() {
        JamBridge bridge = new JamBridge();
        check.denied("removing nothing", bridge, 3, 0, bridge::removeLastSpan);
        bridge.pass(30);
        check.denied("removing nothing at hour 30", bridge, 3, 30, bridge::removeLastSpan);
        bridge.addSpan(4);
        bridge.addSpan(6);
        bridge.pour(0, 50);
        bridge.pour(1, 7);
        check.same("removeLastSpan()", bridge.removeLastSpan(), 7);
        check.same("spanCount", bridge.spanCount(), 1);
        bridge.pass(10);
        check.same("addSpan behind a removed one", bridge.addSpan(9), 1);
        check.same("span in the place of a removed one", Scene.span(bridge, 1), "1:9j0h0=0");
        bridge.enter(5);
        check.denied("removing under a vehicle", bridge, 4, 1, bridge::removeLastSpan);
        bridge.undo();
        check.same("removing a span without jars", bridge.removeLastSpan(), 0);
        check.same("removing the only span", bridge.removeLastSpan(), 50);
        check.denied("removing when none is left", bridge, 3, 40, bridge::removeLastSpan);

        // At hour 54 the vehicle moves onto span 1, strains it, and sinks by the crack that spreads there.
        JamBridge used = Scene.cracked(6);
        used.pour(1, 6);
        used.enter(30);
        used.pass(6);
        check.same("vehicles", used.vehicleCount(), 0);
        check.same("stress, cracks, age before", used.stress(1) * 100 + used.cracks(1) * 10 + used.age(1), 126);
        check.same("jars before", used.removeLastSpan(), 6);
        used.addSpan(3);
        check.same("the new span in that place", Scene.span(used, 1), "1:3j0h0=0");
        check.same("its stress", used.stress(1), 0);
    }

    private static void pour() {
        JamBridge bridge = Scene.bridge(0, 4, 0, 2, 0);
        check.same("first jars", bridge.pour(0, 1), 0);
        check.same("jars", bridge.jars(0), 1);
        for (int span : new int[] {-1, 2, 10, Integer.MIN_VALUE, Integer.MAX_VALUE}) {
            check.fails("pour(" + span + ", 1)", IndexOutOfBoundsException.class, () -> bridge.pour(span, 1));
            check.fails("pour(" + span + ", 0)", IndexOutOfBoundsException.class, () -> bridge.pour(span, 0));
        }
        for (int jars : new int[] {0, 51, -1, Integer.MIN_VALUE, Integer.MAX_VALUE}) {
            check.fails("pour(0, " + jars + ")", IllegalArgumentException.class, () -> bridge.pour(0, jars));
        }
        check.denied("more than 50 jars", bridge, 1, 50, () -> bridge.pour(0, 50));
        check.same("just 50 jars", bridge.pour(0, 49), 0);
        check.denied("a jar more", bridge, 1, 50, () -> bridge.pour(0, 1));
        check.same("jars at the limit", bridge.jars(0), 50);
        check.same("50 jars at once", bridge.pour(1, 50), 0);
        bridge.pass(24);
        bridge.enter(1);
        bridge.enter(1);
        bridge.enter(1);
        check.denied("vehicles ahead of the limit", bridge, 4, 3, () -> bridge.pour(0, 50));
        check.fails("a wrong number ahead of vehicles", IllegalArgumentException.class, () -> bridge.pour(0, 51));
        check.fails("a wrong span ahead of vehicles", IndexOutOfBoundsException.class, () -> bridge.pour(2, 1));
    }

    private static void pouredAge() {
        JamBridge bridge = Scene.bridge(7, 4, 3);
        check.same("age 7 * 3 / 5", bridge.pour(0, 2), 4);
        check.same("age", bridge.age(0), 4);
        check.same("jars", bridge.jars(0), 5);
        Scene.pass(bridge, 96);
        check.same("age over 24 counts whole: 100 * 5 / 10", bridge.pour(0, 5), 50);
        check.same("100 * 10 / 50 would be other", bridge.pour(0, 40), 10);
        JamBridge empty = Scene.bridge(20, 4, 0);
        check.same("age without jars stays", empty.age(0), 0);
        check.same("age of first jars", empty.pour(0, 10), 0);
        empty.pass(1);
        check.same("age an hour later", empty.age(0), 1);
    }

    private static void mend() {
        JamBridge bridge = Scene.cracked(4);
        check.same("till before", bridge.till(), 200);
        check.same("cracks before", bridge.cracks(0), 4);
        check.fails("no such span", IndexOutOfBoundsException.class, () -> bridge.mend(2, 0));
        check.fails("span -1", IndexOutOfBoundsException.class, () -> bridge.mend(-1, 1));
        for (int cracks : new int[] {0, 10, -1, Integer.MIN_VALUE, Integer.MAX_VALUE}) {
            check.fails("mend(0, " + cracks + ")", IllegalArgumentException.class, () -> bridge.mend(0, cracks));
        }
        check.denied("more than there are", bridge, 6, 4, () -> bridge.mend(0, 5));
        check.denied("9 where there are none", bridge, 6, 0, () -> bridge.mend(1, 9));
        check.same("mend(0, 1)", bridge.mend(0, 1), 195);
        check.same("cracks after", bridge.cracks(0), 3);
        check.same("strength after", bridge.strength(0), 70);
        check.same("mend(0, 3)", bridge.mend(0, 3), 180);
        check.same("cracks after all", bridge.cracks(0), 0);
        check.same("till", bridge.till(), 180);
        check.same("paid tolls stay", bridge.paidTolls(), 200);

        JamBridge under = Scene.cracked(1);
        check.same("a vehicle is there", under.vehicleCount(), 1);
        check.same("mended under a vehicle", under.mend(0, 1), 195);

        JamBridge nine = Scene.cracked(9);
        check.same("9 cracks", nine.cracks(0), 9);
        check.same("mend(0, 9)", nine.mend(0, 9), 155);

        JamBridge poor = poorAndCracked();
        check.same("14 spoons", poor.till(), 14);
        check.denied("the cracks ahead of the till", poor, 6, 4, () -> poor.mend(0, 5));
        check.denied("3 cracks for 14 spoons", poor, 5, 14, () -> poor.mend(0, 3));
        check.same("2 cracks for 14 spoons", poor.mend(0, 2), 4);
        check.denied("1 crack for 4 spoons", poor, 5, 4, () -> poor.mend(0, 1));
        check.same("cracks after a denial", poor.cracks(0), 2);

        JamBridge exact = poorAndCracked();
        exact.removeLastSpan();
        exact.setRate(10);
        exact.enter(1);
        exact.pass(1);
        check.same("3 cracks for 15 spoons", exact.mend(0, 3), 0);
    }

    /** 4 cracks in span 0, 14 spoons in the till. */
    private static JamBridge poorAndCracked() {
        JamBridge bridge = Scene.bridge(24, 12, 50);
        bridge.setRate(20);
        bridge.enter(7);
        bridge.pass(1);
        bridge.addSpan(1);
        bridge.enter(90);
        bridge.pass(6);
        bridge.enter(70);
        bridge.pass(6);
        return bridge;
    }

    private static void keptStress() {
        JamBridge mended = Scene.cracked(1);
        mended.pass(1);
        check.same("stress before mending", mended.stress(0), 1);
        mended.mend(0, 1);
        check.same("mending leaves the stress", mended.stress(0), 1);
        mended.pass(2);
        check.same("so that the third hour cracks it", mended.cracks(0), 1);

        // At hour 54 the vehicle moves onto span 1, strains it, and sinks by the crack that spreads there.
        JamBridge poured = Scene.cracked(6);
        poured.pour(1, 6);
        poured.enter(30);
        poured.pass(6);
        check.same("stress and cracks before pouring", poured.stress(1) * 10 + poured.cracks(1), 12);
        poured.pour(1, 1);
        check.same("pouring leaves both", poured.stress(1) * 10 + poured.cracks(1), 12);
    }

    private static void wrongSpans() {
        JamBridge bridge = Scene.bridge(3, 4, 5, 6, 7);
        for (int span : new int[] {-1, 2, 9, 10, Integer.MIN_VALUE, Integer.MAX_VALUE}) {
            noSuchSpan(bridge, span);
        }
        noSuchSpan(new JamBridge(), 0);
    }

    private static void noSuchSpan(JamBridge bridge, int span) {
        String at = "(" + span + ") of " + bridge.spanCount() + " spans";
        Class<IndexOutOfBoundsException> due = IndexOutOfBoundsException.class;
        check.fails("jars" + at, due, () -> bridge.jars(span));
        check.fails("age" + at, due, () -> bridge.age(span));
        check.fails("cracks" + at, due, () -> bridge.cracks(span));
        check.fails("stress" + at, due, () -> bridge.stress(span));
        check.fails("strength" + at, due, () -> bridge.strength(span));
        check.fails("load" + at, due, () -> bridge.load(span));
        check.fails("isStrained" + at, due, () -> bridge.isStrained(span));
        check.fails("hoursUntilBears" + at, due, () -> bridge.hoursUntilBears(span, 1));
        check.fails("hoursUntilBearsByDivision" + at, due, () -> bridge.hoursUntilBearsByDivision(span, 1));
        check.fails("hoursUntilBears, ahead of the weight" + at, due, () -> bridge.hoursUntilBears(span, 0));
        check.fails("hoursUntilBearsByDivision, ahead of the weight" + at, due,
                () -> bridge.hoursUntilBearsByDivision(span, 0));
        check.fails("writeSpan" + at, due, () -> bridge.writeSpan(span));
        check.fails("pour" + at, due, () -> bridge.pour(span, 1));
        check.fails("mend" + at, due, () -> bridge.mend(span, 1));
    }

    private static void removedSpan() {
        JamBridge bridge = Scene.bridge(24, 4, 5, 6, 7);
        bridge.removeLastSpan();
        noSuchSpan(bridge, 1);
        check.fails("its rank", NoSuchElementException.class, () -> bridge.spanByStrength(1));
        bridge.removeLastSpan();
        noSuchSpan(bridge, 0);
        check.fails("the last rank", NoSuchElementException.class, () -> bridge.spanByStrength(0));
        bridge.undo();
        check.same("there again", bridge.jars(0), 5);
        noSuchSpan(bridge, 1);
        JamBridge undone = Scene.bridge(24, 4, 5);
        undone.addSpan(6);
        undone.undo();
        noSuchSpan(undone, 1);
    }

    private static void spanQueries() {
        JamBridge bridge = Scene.bridge(30, 4, 5, 6, 0);
        check.same("spanCount", bridge.spanCount(), 2);
        check.same("jars(0)", bridge.jars(0), 5);
        check.same("jars(1)", bridge.jars(1), 0);
        check.same("age(0) over 24", bridge.age(0), 30);
        check.same("age(1)", bridge.age(1), 0);
        check.same("cracks(0)", bridge.cracks(0), 0);
        check.same("load(0)", bridge.load(0), 0);
        bridge.enter(12);
        bridge.enter(17);
        check.same("load(0) of two", bridge.load(0), 29);
        check.same("load(1)", bridge.load(1), 0);
        JamBridge cracked = Scene.rich();
        cracked.enter(90);
        check.same("stress at once", cracked.stress(0), 0);
        cracked.pass(1);
        check.same("stress after an hour", cracked.stress(0), 1);
        cracked.pass(1);
        check.same("stress after two hours", cracked.stress(0), 2);
        check.same("cracks after two hours", cracked.cracks(0), 0);
        cracked.pass(1);
        check.same("stress after three hours", cracked.stress(0), 0);
        check.same("cracks after three hours", cracked.cracks(0), 1);
    }

    private static void strength() {
        check.same("no jars", Scene.bridge(24, 1, 0).strength(0), 0);
        check.same("no hours", Scene.bridge(0, 1, 50).strength(0), 0);
        check.same("7 * 5 / 4 rounded down", Scene.bridge(5, 4, 7).strength(0), 8);
        check.same("10 jars, 23 hours", Scene.bridge(23, 4, 10).strength(0), 57);
        check.same("10 jars, 24 hours", Scene.bridge(24, 4, 10).strength(0), 60);
        check.same("10 jars, 25 hours", Scene.bridge(25, 4, 10).strength(0), 60);
        check.same("the greatest", Scene.bridge(200, 1, 50).strength(0), 1200);
        check.same("the smallest above 0 hours", Scene.bridge(19, 20, 1).strength(0), 0);
        check.same("one jar on 20", Scene.bridge(20, 20, 1).strength(0), 1);
        check.same("100 with 7 cracks", Scene.cracked(7).strength(0), 30);
        check.same("100 with 9 cracks", Scene.cracked(9).strength(0), 10);
        // Each of both divisions is rounded down: 50 * 24 / 13 is 92, and 92 * 9 / 10 is 82, not 83.
        JamBridge uneven = Scene.bridge(24, 13, 50, 1, 0);
        check.same("92 without cracks", uneven.strength(0), 92);
        uneven.enter(80);
        uneven.pass(3);
        check.same("92 with a crack", uneven.strength(0), 82);
        // Set strength 36 * 24 / 12 = 72.
        JamBridge bridge = Scene.bridge(24, 12, 36, 1, 0);
        bridge.enter(60);
        bridge.pass(3);
        check.same("72 with a crack", bridge.strength(0), 64);
        bridge.pass(3);
        check.same("72 with 2 cracks", bridge.strength(0), 57);
    }

    private static void strained() {
        // Strength 60: 48 * 5 = 60 * 4 is not more, 49 * 5 is.
        JamBridge bridge = Scene.bridge(24, 4, 10, 4, 0);
        check.yes("not strained without a load", !bridge.isStrained(0));
        check.yes("not strained without strength and load", !bridge.isStrained(1));
        bridge.enter(48);
        check.yes("not strained by 48 of 60", !bridge.isStrained(0));
        bridge.enter(1);
        check.yes("strained by 49 of 60", bridge.isStrained(0));
        check.same("stress stays 0 meanwhile", bridge.stress(0), 0);
        bridge.pass(1);
        check.same("stress is told by load and strength", bridge.stress(0), 1);
    }

    private static void hoursUntilBears() {
        JamBridge bridge = Scene.bridge(0, 4, 10, 5, 0);
        check.same("48 of 10 jars on 4", bridge.hoursUntilBears(0, 48), 20);
        check.same("60, the most", bridge.hoursUntilBears(0, 60), 24);
        check.same("47 by division", bridge.hoursUntilBearsByDivision(0, 47), 19);
        for (int weight : new int[] {0, 100, -1, Integer.MIN_VALUE, Integer.MAX_VALUE}) {
            check.fails("weight " + weight, IllegalArgumentException.class, () -> bridge.hoursUntilBears(0, weight));
            check.fails("weight " + weight + " by division", IllegalArgumentException.class,
                    () -> bridge.hoursUntilBearsByDivision(0, weight));
            check.fails("weight " + weight + " without jars", IllegalArgumentException.class,
                    () -> bridge.hoursUntilBearsByDivision(1, weight));
        }
        check.fails("61", NoSuchElementException.class, () -> bridge.hoursUntilBears(0, 61));
        check.fails("61 by division", NoSuchElementException.class, () -> bridge.hoursUntilBearsByDivision(0, 61));
        check.fails("no jars", NoSuchElementException.class, () -> bridge.hoursUntilBears(1, 1));
        check.fails("no jars by division", NoSuchElementException.class, () -> bridge.hoursUntilBearsByDivision(1, 1));
        bridge.pass(19);
        check.same("48 at hour 19", bridge.hoursUntilBears(0, 48), 1);
        bridge.pass(1);
        check.same("48 at hour 20", bridge.hoursUntilBears(0, 48), 0);
        check.same("48 at hour 20 by division", bridge.hoursUntilBearsByDivision(0, 48), 0);
        bridge.pass(30);
        check.same("60 at hour 50", bridge.hoursUntilBears(0, 60), 0);
        check.same("60 at hour 50 by division", bridge.hoursUntilBearsByDivision(0, 60), 0);
        check.fails("61 at hour 50", NoSuchElementException.class, () -> bridge.hoursUntilBears(0, 61));
        JamBridge thin = Scene.bridge(0, 3, 1);
        check.same("5 of 1 jar on 3", thin.hoursUntilBearsByDivision(0, 5), 15);
        check.same("8 of 1 jar on 3", thin.hoursUntilBears(0, 8), 24);
        check.same("99 of the strongest", Scene.bridge(0, 1, 50).hoursUntilBears(0, 99), 2);
        check.same("nothing has changed", bridge.hour(), 50);
    }

    private static void bearsBothWays() {
        for (int steps = 0; steps <= 9; steps++) {
            for (int poured = 0; poured <= 1; poured++) {
                JamBridge bridge = Scene.cracked(steps);
                if (bridge.vehicleCount() > 0) {
                    Scene.pass(bridge, 30);
                }
                if (poured == 1 && bridge.vehicleCount() == 0) {
                    bridge.pour(1, 13);
                    bridge.pass(1);
                }
                for (int weight = 1; weight <= 99; weight++) {
                    String what = steps + " cracks or so, weight " + weight;
                    check.same(what, bears(bridge, 0, weight, true), bears(bridge, 0, weight, false));
                    check.same(what, bears(bridge, 1, weight, true), bears(bridge, 1, weight, false));
                }
            }
        }
    }

    private static int bears(JamBridge bridge, int span, int weight, boolean byDivision) {
        try {
            return byDivision ? bridge.hoursUntilBearsByDivision(span, weight) : bridge.hoursUntilBears(span, weight);
        } catch (NoSuchElementException e) {
            return -1;
        }
    }

    private static void spanByStrength() {
        JamBridge bridge = Scene.bridge(24, 4, 10, 1, 1, 4, 10, 2, 1, 1, 0);
        int[] due = {4, 3, 1, 0, 2};
        for (int rank = 0; rank < due.length; rank++) {
            check.same("rank " + rank, bridge.spanByStrength(rank), due[rank]);
        }
        for (int rank : new int[] {-1, 5, 10, Integer.MIN_VALUE, Integer.MAX_VALUE}) {
            check.fails("rank " + rank, NoSuchElementException.class, () -> bridge.spanByStrength(rank));
        }
        check.fails("rank 0 of no spans", NoSuchElementException.class, () -> new JamBridge().spanByStrength(0));

        // Spans 0 and 1 bear nothing; a crack has spread to span 1, which so comes first then.
        JamBridge cracked = Scene.cracked(6);
        cracked.addSpan(5);
        check.same("cracks of span 1", cracked.cracks(1), 1);
        check.same("more cracks first", cracked.spanByStrength(0), 1);
        check.same("fewer cracks next", cracked.spanByStrength(1), 2);
        check.same("the strongest last", cracked.spanByStrength(2), 0);
        // More cracks come first for a higher index, too: span 1 is mended, span 2 keeps one.
        Scene.pass(cracked, 30);
        check.same("cracks of span 2", cracked.cracks(2), 1);
        cracked.mend(1, cracked.cracks(1));
        check.same("span 2 first", cracked.spanByStrength(0), 2);
        check.same("span 1 next", cracked.spanByStrength(1), 1);
        JamBridge equal = Scene.bridge(24, 1, 0, 1, 0);
        check.same("equal spans, rank 0", equal.spanByStrength(0), 0);
        check.same("equal spans, rank 1", equal.spanByStrength(1), 1);
    }
}
