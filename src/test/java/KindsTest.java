/** Promises 1 to 4: a new object, and the acts that change kinds and rules. */
public final class KindsTest {
    private static final int[] FAR = {-1, Integer.MIN_VALUE, Integer.MAX_VALUE};

    private KindsTest() {
    }

    public static void main(String[] args) {
        newObject();
        objectsAreApart();
        setHands();
        setHandsErrors();
        setHandsClash();
        setRule();
        setRuleClash();
        setKinds();
        setKindsKeepsHands();
        Check.finish();
    }

    private static void newObject() {
        DollGarlands x = new DollGarlands();
        int[] counts = {0, 0, 0, 0, 0, 3, 0, 0, 0, 0};
        for (int what = 0; what < counts.length; what++) {
            Check.due("1: count(" + what + ")", x.count(what), counts[what]);
        }
        for (int garland = 0; garland < 8; garland++) {
            Check.due("1: garland(" + garland + ", 0)", x.garland(garland, 0), DollGarlands.UNKNOWN);
        }
        Check.due("1: longest()", x.longest(), DollGarlands.NONE);
        Check.due("1: undo()", x.undo(), DollGarlands.NONE);
        Check.due("1: restore()", x.restore(), DollGarlands.NONE);
        Check.due("1: readGarland()", x.readGarland(), -100);
        Check.due("1: setKinds(10)", x.setKinds(10), 3);
        for (int kind = 0; kind < 10; kind++) {
            Check.due("1: kind(" + kind + ", 0)", x.kind(kind, 0), kind % 6);
            Check.due("1: kind(" + kind + ", 1)", x.kind(kind, 1), (kind + 1) % 6);
        }
    }

    private static void objectsAreApart() {
        DollGarlands x = new DollGarlands();
        DollGarlands y = new DollGarlands();
        x.setRule(2);
        x.setHands(0, 5, 5);
        Check.read(x, "0");
        x.keep();
        Check.due("1: count(4) of another", y.count(4), 0);
        Check.due("1: kind(0, 0) of another", y.kind(0, 0), 0);
        Check.due("1: count(0) of another", y.count(0), 0);
        Check.due("1: count(8) of another", y.count(8), 0);
        Check.due("1: count(9) of another", y.count(9), 0);
        Check.due("1: restore() of another", y.restore(), DollGarlands.NONE);
    }

    private static void setHands() {
        DollGarlands x = new DollGarlands();
        Check.due("2: setHands(0, 5, 0)", x.setHands(0, 5, 0), 1);
        Check.due("2: setHands(0, 5, 4)", x.setHands(0, 5, 4), 50);
        Check.due("2: the left alone", x.setHands(0, 3, 4), 54);
        Check.due("2: setHands(2, 0, 5)", x.setHands(2, 0, 5), 23);
        Check.due("2: kind(0, 0)", x.kind(0, 0), 3);
        Check.due("2: kind(0, 1)", x.kind(0, 1), 4);
        Check.due("2: kind(1, 0)", x.kind(1, 0), 1);
        Check.due("2: kind(2, 1)", x.kind(2, 1), 5);
        Check.due("2: states", x.count(8), 4);
        Check.due("2: undo()", x.undo(), 3);
        Check.due("2: undone", x.kind(2, 0), 2);
        Check.due("2: same again", x.setHands(0, 3, 4), DollGarlands.NONE);
        Check.due("2: NONE is no act", x.count(8), 3);
    }

    private static void setHandsErrors() {
        DollGarlands x = new DollGarlands();
        for (int far : FAR) {
            Check.due("2: kind " + far, x.setHands(far, 1, 1), DollGarlands.UNKNOWN);
            Check.due("2: left " + far, x.setHands(0, far, 1), DollGarlands.BAD_VALUE);
            Check.due("2: right " + far, x.setHands(0, 1, far), DollGarlands.BAD_VALUE);
        }
        Check.due("2: kind 3", x.setHands(3, 1, 1), DollGarlands.UNKNOWN);
        Check.due("2: UNKNOWN is first", x.setHands(3, 6, 6), DollGarlands.UNKNOWN);
        Check.due("2: left 6", x.setHands(2, 6, 0), DollGarlands.BAD_VALUE);
        Check.due("2: right 6", x.setHands(2, 0, 6), DollGarlands.BAD_VALUE);
        Check.due("2: right 6 of the same left", x.setHands(2, 2, 6), DollGarlands.BAD_VALUE);
        Check.due("2: errors are no acts", x.count(8), 0);
        x.setKinds(10);
        Check.due("2: kind 9", x.setHands(9, 1, 1), 34);
        Check.due("2: kind 10", x.setHands(10, 1, 1), DollGarlands.UNKNOWN);
        x.setKinds(1);
        Check.due("2: kind 1 of one", x.setHands(1, 0, 0), DollGarlands.UNKNOWN);
    }

    private static void setHandsClash() {
        DollGarlands x = new DollGarlands();
        x.setHands(1, 1, 0);
        Check.due("2: read", Check.read(x, "2"), 0);
        Check.due("2: read", Check.read(x, "1,1'"), 1);
        int states = x.count(8);
        Check.due("2: would clash", x.setHands(1, 1, 3), DollGarlands.NOT_POSSIBLE);
        Check.due("2: nothing changed", 10 * x.kind(1, 0) + x.kind(1, 1), 10);
        Check.due("2: no act", x.count(8), states);
        Check.due("2: BAD_VALUE is first", x.setHands(1, 1, 6), DollGarlands.BAD_VALUE);
        Check.due("2: the other hand is free", x.setHands(1, 4, 0), 10);
        Check.due("2: another kind is free", x.setHands(2, 3, 3), 23);
        x.takeAway(1);
        Check.due("2: without the garland", x.setHands(1, 1, 3), 40);
        // Hands of two kinds that meet: a change of either kind can make them clash.
        DollGarlands y = new DollGarlands();
        Check.due("2: read", Check.read(y, "0,2'"), 0);
        Check.due("2: left one", y.setHands(0, 0, 3), DollGarlands.NOT_POSSIBLE);
        Check.due("2: right one", y.setHands(2, 2, 1), DollGarlands.NOT_POSSIBLE);
        Check.due("2: outer hand", y.setHands(2, 1, 3), 23);
    }

    private static void setRule() {
        DollGarlands x = new DollGarlands();
        Check.due("3: setRule(0)", x.setRule(0), DollGarlands.NONE);
        Check.due("3: no act", x.count(8), 0);
        Check.due("3: setRule(2)", x.setRule(2), 0);
        Check.due("3: count(4)", x.count(4), 2);
        Check.due("3: setRule(1)", x.setRule(1), 2);
        Check.due("3: setRule(1) again", x.setRule(1), DollGarlands.NONE);
        Check.due("3: setRule(0)", x.setRule(0), 1);
        Check.due("3: setRule(3)", x.setRule(3), DollGarlands.BAD_VALUE);
        for (int far : FAR) {
            Check.due("3: setRule(" + far + ")", x.setRule(far), DollGarlands.BAD_VALUE);
        }
        Check.due("3: states", x.count(8), 3);
        Check.due("3: undo()", x.undo(), 2);
        Check.due("3: undone", x.count(4), 1);
    }

    private static void setRuleClash() {
        DollGarlands x = new DollGarlands();
        x.setHands(0, 1, 1);
        Check.due("3: alike, none mirrored", Check.read(x, "0,0"), 0);
        Check.due("3: alike by the rule 1", x.setRule(1), DollGarlands.NOT_POSSIBLE);
        Check.due("3: rule kept", x.count(4), 0);
        Check.due("3: no act", x.count(8), 2);
        Check.due("3: alike by the rule 2", x.setRule(2), 0);
        Check.due("3: one mirrored", Check.read(x, "0,0'"), 1);
        Check.due("3: back to 0", x.setRule(0), DollGarlands.NOT_POSSIBLE);
        Check.due("3: NONE where it is", x.setRule(2), DollGarlands.NONE);
        x.takeAway(1);
        Check.due("3: back without it", x.setRule(0), 2);
        DollGarlands y = new DollGarlands();
        Check.due("3: both mirrored", Check.read(y, "0,2',2'"), 0);
        Check.due("3: not alike by the rule 2", y.setRule(2), DollGarlands.NOT_POSSIBLE);
        Check.due("3: not alike by the rule 1", y.setRule(1), 0);
    }

    private static void setKinds() {
        DollGarlands x = new DollGarlands();
        Check.due("4: setKinds(3)", x.setKinds(3), DollGarlands.NONE);
        Check.due("4: no act", x.count(8), 0);
        Check.due("4: setKinds(10)", x.setKinds(10), 3);
        Check.due("4: count(5)", x.count(5), 10);
        Check.due("4: setKinds(1)", x.setKinds(1), 10);
        Check.due("4: setKinds(0)", x.setKinds(0), DollGarlands.BAD_VALUE);
        Check.due("4: setKinds(11)", x.setKinds(11), DollGarlands.BAD_VALUE);
        for (int far : FAR) {
            Check.due("4: setKinds(" + far + ")", x.setKinds(far), DollGarlands.BAD_VALUE);
        }
        Check.due("4: states", x.count(8), 2);
        Check.due("4: undo()", x.undo(), 1);
        Check.due("4: undone", x.count(5), 10);
        Check.due("4: read", Check.read(x, "0"), 0);
        Check.due("4: read", Check.read(x, "0,4"), 1);
        Check.due("4: one too few", x.setKinds(4), DollGarlands.NOT_POSSIBLE);
        Check.due("4: one", x.setKinds(1), DollGarlands.NOT_POSSIBLE);
        Check.due("4: BAD_VALUE is first", x.setKinds(0), DollGarlands.BAD_VALUE);
        Check.due("4: kept", x.count(5), 10);
        Check.due("4: just enough", x.setKinds(5), 10);
        x.takeAway(1);
        Check.due("4: without it", x.setKinds(1), 5);
        DollGarlands y = new DollGarlands();
        Check.read(y, "2',0");
        Check.read(y, "0");
        Check.due("4: the first doll of the first garland", y.setKinds(2), DollGarlands.NOT_POSSIBLE);
        y.takeAway(0);
        Check.due("4: without it", y.setKinds(1), 3);
    }

    private static void setKindsKeepsHands() {
        DollGarlands x = new DollGarlands();
        x.setHands(2, 5, 5);
        x.setKinds(2);
        Check.due("4: no kind for some time", x.kind(2, 0), DollGarlands.UNKNOWN);
        x.setKinds(4);
        Check.due("4: its hands are kept", 10 * x.kind(2, 0) + x.kind(2, 1), 55);
        Check.due("4: those of a new one", 10 * x.kind(3, 0) + x.kind(3, 1), 34);
    }
}
