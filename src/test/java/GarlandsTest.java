/** Promises 5 to 10: the acts that change garlands. */
public final class GarlandsTest {
    private static final int[] NO_GARLANDS = {-1, 7, 8, Integer.MIN_VALUE, Integer.MAX_VALUE};

    private GarlandsTest() {
    }

    public static void main(String[] args) {
        cutDoll();
        cutDollErrors();
        join();
        joinErrors();
        joinTooLong();
        cutApart();
        cutApartErrors();
        neighboursStay();
        turn();
        fold();
        foldErrors();
        takeAway();
        Check.finish();
    }

    private static void cutDoll() {
        DollGarlands x = new DollGarlands();
        Check.due("5: cutDoll(1, false)", x.cutDoll(1, false), 0);
        Check.due("5: cutDoll(2, true)", x.cutDoll(2, true), 1);
        Check.due("5: cutDoll(0, true)", x.cutDoll(0, true), 2);
        Check.garland(x, 0, "1");
        Check.garland(x, 1, "2'");
        Check.garland(x, 2, "0'");
        Check.due("5: states", x.count(8), 3);
        x.takeAway(1);
        x.takeAway(0);
        Check.due("5: the lowest number", x.cutDoll(2, false), 0);
        Check.due("5: the next one", x.cutDoll(2, false), 1);
        Check.due("5: the next one", x.cutDoll(2, false), 3);
        Check.due("5: undo()", x.undo(), 3);
        Check.garland(x, 3, "-");
        Check.garland(x, 1, "2");
    }

    private static void cutDollErrors() {
        DollGarlands x = new DollGarlands();
        int[] noKinds = {-1, 3, 10, Integer.MIN_VALUE, Integer.MAX_VALUE};
        for (int kind : noKinds) {
            Check.due("5: kind " + kind, x.cutDoll(kind, false), DollGarlands.UNKNOWN);
        }
        for (int garland = 0; garland < 8; garland++) {
            Check.due("5: room", x.cutDoll(garland % 3, false), garland);
        }
        Check.due("5: full", x.cutDoll(0, false), DollGarlands.FULL);
        Check.due("5: full", x.cutDoll(0, true), DollGarlands.FULL);
        Check.due("5: UNKNOWN is first", x.cutDoll(3, true), DollGarlands.UNKNOWN);
        Check.due("5: count(0)", x.count(0), 8);
        Check.due("5: states", x.undo(), 3);
        Check.due("5: the error was no act", x.count(0), 7);
    }

    private static void join() {
        DollGarlands x = new DollGarlands();
        Check.read(x, "0,1");
        Check.read(x, "2',0,0");
        Check.read(x, "1");
        Check.due("6: join(1, 0)", x.join(1, 0), 5);
        Check.garland(x, 1, "2',0,0,0,1");
        Check.garland(x, 0, "-");
        Check.garland(x, 2, "1");
        Check.due("6: gone", x.join(1, 0), DollGarlands.UNKNOWN);
        Check.due("6: states", x.count(8), 4);
        Check.due("6: undo()", x.undo(), 3);
        Check.garland(x, 0, "0,1");
        Check.garland(x, 1, "2',0,0");
        Check.due("6: join(0, 1)", x.join(0, 1), 5);
        Check.garland(x, 0, "0,1,2',0,0");
        Check.garland(x, 1, "-");
        Check.due("6: count(0)", x.count(0), 2);
    }

    private static void joinErrors() {
        DollGarlands x = new DollGarlands();
        Check.read(x, "0,1");
        Check.read(x, "1',0");
        Check.read(x, "1',0,1");
        for (int far : NO_GARLANDS) {
            Check.due("6: garland " + far, x.join(far, 0), DollGarlands.UNKNOWN);
            Check.due("6: other " + far, x.join(0, far), DollGarlands.UNKNOWN);
            Check.due("6: UNKNOWN is first", x.join(far, far), DollGarlands.UNKNOWN);
        }
        Check.due("6: the same", x.join(1, 1), DollGarlands.BAD_VALUE);
        Check.due("6: the same that would clash", x.join(2, 2), DollGarlands.BAD_VALUE);
        Check.due("6: 2 meets 2, one mirrored", x.join(0, 1), DollGarlands.NOT_POSSIBLE);
        Check.due("6: errors are no acts", x.count(8), 3);
        Check.garland(x, 0, "0,1");
        Check.garland(x, 1, "1',0");
        Check.due("6: the hands at the other ends", x.join(1, 0), 4);
    }

    private static void joinTooLong() {
        DollGarlands x = new DollGarlands();
        Check.read(x, Check.many("0", 16));
        Check.read(x, Check.many("0", 16));
        Check.read(x, Check.many("0", 16) + ",1");
        Check.read(x, "1'," + Check.many("0", 15));
        Check.due("6: 33 dolls", x.join(0, 2), DollGarlands.FULL);
        Check.due("6: NOT_POSSIBLE is before FULL", x.join(2, 3), DollGarlands.NOT_POSSIBLE);
        Check.due("6: 32 dolls", x.join(0, 1), 32);
        Check.garland(x, 0, Check.many("0", 32));
        Check.garland(x, 2, Check.many("0", 16) + ",1");
        Check.garland(x, 3, "1'," + Check.many("0", 15));
        Check.due("6: far too many", x.join(2, 0), DollGarlands.FULL);
        Check.due("6: count(1)", x.count(1), 65);
    }

    private static void cutApart() {
        DollGarlands x = new DollGarlands();
        Check.read(x, "1");
        Check.read(x, "0',0,1',0,2");
        Check.read(x, "2");
        x.takeAway(0);
        Check.due("7: cutApart(1, 2)", x.cutApart(1, 2), 0);
        Check.garland(x, 0, "1',0,2");
        Check.garland(x, 1, "0',0");
        Check.garland(x, 2, "2");
        Check.due("7: at the first place", x.cutApart(1, 1), 3);
        Check.garland(x, 1, "0'");
        Check.garland(x, 3, "0");
        Check.due("7: at the last place", x.cutApart(0, 2), 4);
        Check.garland(x, 0, "1',0");
        Check.garland(x, 4, "2");
        Check.due("7: states", x.undo(), 3);
        Check.garland(x, 0, "1',0,2");
        Check.garland(x, 4, "-");
    }

    private static void cutApartErrors() {
        DollGarlands x = new DollGarlands();
        Check.read(x, "0,0,1");
        Check.read(x, "0");
        for (int far : NO_GARLANDS) {
            Check.due("7: garland " + far, x.cutApart(far, 1), DollGarlands.UNKNOWN);
            Check.due("7: UNKNOWN is first", x.cutApart(far, 0), DollGarlands.UNKNOWN);
        }
        int[] noPlaces = {0, 3, 4, -1, Integer.MIN_VALUE, Integer.MAX_VALUE};
        for (int place : noPlaces) {
            Check.due("7: place " + place, x.cutApart(0, place), DollGarlands.BAD_VALUE);
        }
        Check.due("7: one doll", x.cutApart(1, 1), DollGarlands.BAD_VALUE);
        Check.due("7: one doll", x.cutApart(1, 0), DollGarlands.BAD_VALUE);
        Check.due("7: errors are no acts", x.count(8), 2);
        for (int garland = 2; garland < 8; garland++) {
            x.cutDoll(0, false);
        }
        Check.due("7: full", x.cutApart(0, 1), DollGarlands.FULL);
        Check.due("7: BAD_VALUE is before FULL", x.cutApart(0, 3), DollGarlands.BAD_VALUE);
        Check.garland(x, 0, "0,0,1");
        x.takeAway(7);
        Check.due("7: the last number", x.cutApart(0, 2), 7);
    }

    private static void neighboursStay() {
        DollGarlands x = new DollGarlands();
        Check.read(x, Check.many("0", 15));
        Check.read(x, Check.many("0'", 20));
        Check.read(x, Check.many("1", 16) + ",2");
        Check.due("6: 32 dolls", x.join(0, 2), 32);
        Check.garland(x, 0, Check.many("0", 15) + "," + Check.many("1", 16) + ",2");
        Check.garland(x, 1, Check.many("0'", 20));
        Check.due("7: nearly all", x.cutApart(0, 1), 2);
        Check.due("7: the last doll", x.cutApart(2, 30), 3);
        x.takeAway(0);
        Check.due("7: the last doll", x.cutApart(2, 29), 0);
        Check.garland(x, 0, "1");
        Check.garland(x, 1, Check.many("0'", 20));
        Check.garland(x, 2, Check.many("0", 14) + "," + Check.many("1", 15));
        Check.garland(x, 3, "2");
        Check.due("8: turn(2)", x.turn(2), 29);
        Check.garland(x, 1, Check.many("0'", 20));
        Check.garland(x, 3, "2");
    }

    private static void turn() {
        DollGarlands x = new DollGarlands();
        for (int far : NO_GARLANDS) {
            Check.due("8: garland " + far, x.turn(far), DollGarlands.UNKNOWN);
        }
        Check.read(x, "0,0,1'");
        Check.due("8: turn(0)", x.turn(0), 2);
        Check.garland(x, 0, "1,0',0'");
        Check.due("8: hand at the left", x.garland(0, 1), 1);
        Check.due("8: hand at the right", x.garland(0, 2), 0);
        Check.due("8: turned back", x.turn(0), 1);
        Check.garland(x, 0, "0,0,1'");
        Check.due("8: states", x.count(8), 3);
        Check.read(x, "0,1,2',2'");
        Check.due("8: turn(1)", x.turn(1), 2);
        Check.garland(x, 1, "2,2,1',0'");
        Check.read(x, "2");
        Check.due("8: one doll", x.turn(2), 1);
        Check.garland(x, 2, "2'");
        x.setHands(2, 4, 4);
        Check.due("8: one with alike hands", x.turn(2), 0);
        Check.garland(x, 2, "2");
        Check.read(x, "1,0',0,1'");
        int states = x.count(8);
        Check.due("8: its own mirror image", x.turn(3), DollGarlands.NONE);
        Check.due("8: NONE is no act", x.count(8), states);
        Check.garland(x, 3, "1,0',0,1'");
    }

    private static void fold() {
        DollGarlands x = new DollGarlands();
        Check.read(x, "0,1,0'");
        Check.due("9: fold(0)", x.fold(0), 6);
        Check.garland(x, 0, "0,1,0',0,1',0'");
        Check.due("9: states", x.undo(), 1);
        Check.garland(x, 0, "0,1,0'");
        Check.read(x, "0'");
        Check.due("9: one doll", x.fold(1), 2);
        Check.garland(x, 1, "0',0");
        Check.read(x, Check.many("0'", 16));
        Check.due("9: 32 dolls", x.fold(2), 32);
        Check.garland(x, 2, Check.many("0'", 16) + "," + Check.many("0", 16));
        Check.garland(x, 1, "0',0");
        x.takeAway(0);
        Check.due("9: the rule 2", x.setRule(2), 0);
        Check.read(x, "1");
        Check.due("9: alike by the rule 2", x.fold(0), 2);
        Check.garland(x, 0, "1,1'");
    }

    private static void foldErrors() {
        DollGarlands x = new DollGarlands();
        for (int far : NO_GARLANDS) {
            Check.due("9: garland " + far, x.fold(far), DollGarlands.UNKNOWN);
        }
        Check.read(x, "0',1");
        Check.due("9: 2 meets 2, one mirrored", x.fold(0), DollGarlands.NOT_POSSIBLE);
        Check.read(x, Check.many("0'", 17));
        Check.due("9: 34 dolls", x.fold(1), DollGarlands.FULL);
        Check.read(x, Check.many("0'", 16) + ",1");
        Check.due("9: NOT_POSSIBLE is before FULL", x.fold(2), DollGarlands.NOT_POSSIBLE);
        Check.due("9: errors are no acts", x.count(8), 3);
        Check.garland(x, 0, "0',1");
        Check.due("9: the rule 1", x.setRule(1), 0);
        Check.due("9: alike by the rule 1", x.fold(0), DollGarlands.NOT_POSSIBLE);
    }

    private static void takeAway() {
        DollGarlands x = new DollGarlands();
        for (int far : NO_GARLANDS) {
            Check.due("10: garland " + far, x.takeAway(far), DollGarlands.UNKNOWN);
        }
        Check.read(x, "0,1,2");
        Check.read(x, "0,1");
        Check.due("10: takeAway(0)", x.takeAway(0), 3);
        Check.garland(x, 0, "-");
        Check.garland(x, 1, "0,1");
        Check.due("10: gone", x.takeAway(0), DollGarlands.UNKNOWN);
        Check.due("10: states", x.count(8), 3);
        Check.due("10: takeAway(1)", x.takeAway(1), 2);
        Check.due("10: count(0)", x.count(0), 0);
        Check.due("10: undo()", x.undo(), 3);
        Check.due("10: undo()", x.undo(), 2);
        Check.garland(x, 0, "0,1,2");
        Check.garland(x, 1, "0,1");
    }
}
