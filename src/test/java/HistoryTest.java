/** Promises 14 to 16: undo, and the snapshot. */
public final class HistoryTest {
    private HistoryTest() {
    }

    public static void main(String[] args) {
        undo();
        undoOfEachAct();
        callsThatAreNoActs();
        oldestIsDropped();
        keepAndRestore();
        restoreIsAnAct();
        snapshotHoldsAll();
        Check.finish();
    }

    private static void undo() {
        DollGarlands x = new DollGarlands();
        Check.due("14: empty", x.undo(), DollGarlands.NONE);
        Check.read(x, "0,1");
        x.setRule(2);
        Check.due("14: undo()", x.undo(), 1);
        Check.due("14: count(8)", x.count(8), 1);
        Check.due("14: the rule", x.count(4), 0);
        Check.garland(x, 0, "0,1");
        Check.due("14: undo()", x.undo(), 0);
        Check.garland(x, 0, "-");
        Check.due("14: the text stays", x.count(9), 3);
        Check.due("14: the text is still to be read", x.readGarland(), 0);
        Check.due("14: undo()", x.undo(), 0);
        Check.due("14: empty", x.undo(), DollGarlands.NONE);
        Check.due("14: the text stays", x.count(9), 3);
    }

    /** Tells all that a state is: settings, hands of all kinds and garlands. */
    private static String state(DollGarlands x) {
        StringBuilder all = new StringBuilder();
        for (int what = 0; what < 8; what++) {
            all.append(x.count(what)).append(' ');
        }
        for (int kind = 0; kind < x.count(5); kind++) {
            all.append(x.kind(kind, 0)).append(x.kind(kind, 1)).append(' ');
        }
        for (int garland = 0; garland < 8; garland++) {
            all.append(Check.told(x, garland)).append(' ');
        }
        return all.toString();
    }

    private static int act(DollGarlands x, int act) {
        switch (act) {
            case 0:
                return x.setHands(1, 0, 3);
            case 1:
                return x.setRule(1);
            case 2:
                return x.setKinds(10);
            case 3:
                return x.cutDoll(1, true);
            case 4:
                return x.join(1, 0);
            case 5:
                return x.cutApart(0, 1);
            case 6:
                return x.turn(0);
            case 7:
                return x.fold(1);
            case 8:
                return x.takeAway(0);
            case 9:
                return x.readGarland();
            default:
                return x.restore();
        }
    }

    private static void undoOfEachAct() {
        for (int act = 0; act <= 10; act++) {
            DollGarlands x = new DollGarlands();
            x.keep();
            Check.read(x, "0,0,2");
            Check.read(x, "0'");
            String before = state(x);
            int states = x.count(8);
            Check.holds("14: the act " + act + " is done", act(x, act) >= 0);
            Check.holds("14: the act " + act + " changes the state", !state(x).equals(before));
            Check.due("14: the act " + act + " is recorded", x.count(8), states + 1);
            Check.due("14: the act " + act + " is undone", x.undo(), states);
            Check.holds("14: the state before the act " + act, state(x).equals(before));
        }
    }

    private static void callsThatAreNoActs() {
        DollGarlands x = new DollGarlands();
        Check.read(x, "0,1");
        x.type(',');
        x.clearText();
        x.keep();
        x.kind(0, 0);
        x.garland(0, 5);
        x.doll(0, 0, 0);
        x.reason(0, 0);
        x.between(0, 0);
        x.ways(4, 2);
        x.longest();
        x.count(7);
        x.setRule(0);
        x.setRule(7);
        x.takeAway(3);
        x.readGarland();
        Check.due("14: no acts", x.count(8), 1);
        Check.due("14: undo()", x.undo(), 0);
        Check.due("14: undo() is no act", x.undo(), DollGarlands.NONE);
    }

    private static void oldestIsDropped() {
        DollGarlands x = new DollGarlands();
        for (int garland = 0; garland < 7; garland++) {
            Check.due("14: cutDoll", x.cutDoll(garland % 3, false), garland);
            Check.due("14: states", x.count(8), Math.min(garland + 1, 4));
        }
        for (int left = 3; left >= 0; left--) {
            Check.due("14: undo()", x.undo(), left);
            Check.due("14: garlands", x.count(0), 3 + left);
        }
        Check.due("14: no more", x.undo(), DollGarlands.NONE);
        Check.due("14: garlands", x.count(0), 3);
        x.setRule(1);
        x.setRule(2);
        Check.due("14: undo()", x.undo(), 1);
        x.setKinds(5);
        x.setKinds(6);
        x.setKinds(7);
        x.setKinds(8);
        int[] kinds = {7, 6, 5, 3};
        for (int i = 0; i < 4; i++) {
            Check.due("14: undo()", x.undo(), 3 - i);
            Check.due("14: kinds", x.count(5), kinds[i]);
        }
        Check.due("14: the rule", x.count(4), 1);
    }

    private static void keepAndRestore() {
        DollGarlands x = new DollGarlands();
        Check.due("16: none", x.restore(), DollGarlands.NONE);
        Check.due("16: NONE is no act", x.count(8), 0);
        Check.due("15: without garlands", x.keep(), 0);
        Check.read(x, "0,1");
        Check.read(x, "2'");
        Check.due("15: in place of the first", x.keep(), 2);
        Check.due("15: no act", x.count(8), 2);
        x.takeAway(0);
        x.turn(1);
        x.setRule(1);
        Check.due("16: restore()", x.restore(), 2);
        Check.garland(x, 0, "0,1");
        Check.garland(x, 1, "2'");
        Check.due("16: the rule", x.count(4), 0);
        x.takeAway(0);
        x.takeAway(1);
        Check.due("16: the snapshot stays", x.restore(), 2);
        Check.garland(x, 1, "2'");
        x.takeAway(1);
        Check.due("15: anew", x.keep(), 1);
        x.takeAway(0);
        Check.due("16: the new one", x.restore(), 1);
        Check.garland(x, 0, "0,1");
        Check.garland(x, 1, "-");
    }

    private static void restoreIsAnAct() {
        DollGarlands x = new DollGarlands();
        x.keep();
        Check.due("16: the same state", x.restore(), 0);
        Check.due("16: is recorded too", x.count(8), 1);
        x.cutDoll(2, false);
        x.keep();
        x.undo();
        Check.due("16: undo leaves the snapshot", x.restore(), 1);
        Check.due("16: states", x.count(8), 2);
        Check.due("16: undo()", x.undo(), 1);
        Check.due("16: undone", x.count(0), 0);
        Check.due("16: once more", x.restore(), 1);
        Check.garland(x, 0, "2");
    }

    private static void snapshotHoldsAll() {
        DollGarlands x = new DollGarlands();
        x.setKinds(10);
        x.setHands(9, 5, 2);
        x.setKinds(4);
        x.setRule(2);
        Check.read(x, "3,0,0");
        x.keep();
        x.setRule(1);
        x.takeAway(0);
        x.setKinds(10);
        x.setHands(9, 1, 1);
        x.setHands(0, 1, 1);
        x.clearText();
        x.type('7');
        Check.due("16: restore()", x.restore(), 1);
        Check.due("16: the rule", x.count(4), 2);
        Check.due("16: the kinds", x.count(5), 4);
        Check.due("16: the history stays", x.count(8), 4);
        Check.due("16: the text stays", x.count(9), 1);
        Check.garland(x, 0, "3,0,0");
        Check.due("16: hands", 10 * x.kind(0, 0) + x.kind(0, 1), 1);
        x.takeAway(0);
        x.setKinds(10);
        Check.due("16: hands of what was no kind", 10 * x.kind(9, 0) + x.kind(9, 1), 52);
        Check.due("16: the text is as typed", x.readGarland(), 0);
        Check.garland(x, 0, "7");
    }
}
