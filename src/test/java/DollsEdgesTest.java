/** The public face, and Terms, DOLLS: each sentence that names a boundary has a test of its own. */
public final class DollsEdgesTest {
    private static final int[] NO_HANDS = {-1, 6, 7, Integer.MIN_VALUE, Integer.MAX_VALUE};

    private DollsEdgesTest() {
    }

    public static void main(String[] args) {
        constants();
        lastPromisedAct();
        lastPromisedCharacter();
        kindsBelowTheSetting();
        refusedKinds();
        settingOneRange();
        settingOneAtFirst();
        handsRange();
        handsAtFirst();
        mirroredDollsHands();
        handsThatMeet();
        noHandNeverClashes();
        settingZeroRange();
        settingZeroAtFirst();
        ruleZero();
        ruleOne();
        ruleTwo();
        Check.finish();
    }

    private static void constants() {
        Check.sentence("the constants");
        Check.due("UNKNOWN", DollGarlands.UNKNOWN, -1);
        Check.due("BAD_VALUE", DollGarlands.BAD_VALUE, -2);
        Check.due("FULL", DollGarlands.FULL, -3);
        Check.due("NOT_POSSIBLE", DollGarlands.NOT_POSSIBLE, -4);
        Check.due("NONE", DollGarlands.NONE, -5);
    }

    private static void lastPromisedAct() {
        Check.sentence("an object is used for at most 512 calls: the last ones still are acts");
        DollGarlands x = new DollGarlands();
        for (int call = 1; call <= 510; call++) {
            Check.due("call " + call, x.setRule(call % 3), (call - 1) % 3);
        }
        Check.due("call 511", x.cutDoll(2, true), 0);
        Check.due("call 512", x.undo(), 3);
    }

    private static void lastPromisedCharacter() {
        Check.sentence("an object is used for at most 512 calls: the last ones still type");
        DollGarlands x = new DollGarlands();
        for (int call = 1; call <= 510; call++) {
            int due = call % 81 == 0 ? 80 : call % 81;
            Check.due("call " + call, call % 81 == 0 ? x.clearText() : x.type('0'), due);
        }
        Check.due("call 511", x.clearText(), 510 % 81);
        Check.due("call 512", x.type('1'), 1);
    }

    private static void kindsBelowTheSetting() {
        Check.sentence("the kinds are 0 up to as many as the setting 1 tells less 1");
        for (int kinds = 1; kinds <= 10; kinds++) {
            DollGarlands x = Tables.withKinds(kinds);
            for (int kind = 0; kind < kinds; kind++) {
                String which = "kind " + kind + " of " + kinds;
                Check.due(which + " told", x.kind(kind, 0), kind % 6);
                Check.due(which + " set", x.setHands(kind, kind % 6, (kind + 1) % 6), DollGarlands.NONE);
                Check.due(which + " cut", x.cutDoll(kind, false), 0);
                Check.due(which + " taken away", x.takeAway(0), 1);
                Check.due(which + " read", Check.read(x, kind + "'"), 0);
                Check.due(which + " taken away", x.takeAway(0), 1);
            }
            for (int kind = kinds; kind < 10; kind++) {
                String which = "kind " + kind + " of " + kinds;
                Check.due(which + " told", x.kind(kind, 0), DollGarlands.UNKNOWN);
                Check.due(which + " set", x.setHands(kind, 0, 0), DollGarlands.UNKNOWN);
                Check.due(which + " cut", x.cutDoll(kind, true), DollGarlands.UNKNOWN);
                Check.due(which + " read", Check.read(x, "0," + kind), DollGarlands.UNKNOWN);
            }
        }
    }

    private static void refusedKinds() {
        Check.sentence("the kinds are 0 up to nine at most: far ones are none");
        for (int kinds = 1; kinds <= 10; kinds++) {
            DollGarlands x = Tables.withKinds(kinds);
            Check.due("told 10", x.kind(10, 0), DollGarlands.UNKNOWN);
            Check.due("set 10", x.setHands(10, 0, 0), DollGarlands.UNKNOWN);
            Check.due("cut 10", x.cutDoll(10, false), DollGarlands.UNKNOWN);
            for (int far : Tables.FAR) {
                Check.due("told " + far, x.kind(far, 0), DollGarlands.UNKNOWN);
                Check.due("set " + far, x.setHands(far, 0, 0), DollGarlands.UNKNOWN);
                Check.due("cut " + far, x.cutDoll(far, false), DollGarlands.UNKNOWN);
            }
        }
    }

    private static void settingOneRange() {
        Check.sentence("the setting 1: 1 to 10");
        DollGarlands x = new DollGarlands();
        Check.due("setKinds(1)", x.setKinds(1), 3);
        Check.due("setKinds(0)", x.setKinds(0), DollGarlands.BAD_VALUE);
        Check.due("still 1", x.count(5), 1);
        Check.due("setKinds(10)", x.setKinds(10), 1);
        Check.due("setKinds(11)", x.setKinds(11), DollGarlands.BAD_VALUE);
        for (int far : Tables.FAR) {
            Check.due("setKinds(" + far + ")", x.setKinds(far), DollGarlands.BAD_VALUE);
        }
        Check.due("still 10", x.count(5), 10);
    }

    private static void settingOneAtFirst() {
        Check.sentence("the setting 1: 3 at first");
        Check.due("count(5)", new DollGarlands().count(5), 3);
        Check.due("setKinds(3)", new DollGarlands().setKinds(3), DollGarlands.NONE);
        Check.due("setKinds(4)", new DollGarlands().setKinds(4), 3);
    }

    private static void handsRange() {
        Check.sentence("a left hand and a right hand, each 0 to 5");
        for (int left = 0; left <= 5; left++) {
            for (int right = 0; right <= 5; right++) {
                DollGarlands x = new DollGarlands();
                boolean so = left == 0 && right == 1;
                Check.due("setHands(0, " + left + ", " + right + ")", x.setHands(0, left, right), so ? DollGarlands.NONE : 1);
                for (int no : NO_HANDS) {
                    Check.due("left " + no, x.setHands(0, no, right), DollGarlands.BAD_VALUE);
                    Check.due("right " + no, x.setHands(0, left, no), DollGarlands.BAD_VALUE);
                }
                Check.due("left", x.kind(0, 0), left);
                Check.due("right", x.kind(0, 1), right);
            }
        }
    }

    private static void handsAtFirst() {
        Check.sentence("at first the left hand k modulo 6 and the right hand (k + 1) modulo 6");
        int[] left = {0, 1, 2, 3, 4, 5, 0, 1, 2, 3};
        int[] right = {1, 2, 3, 4, 5, 0, 1, 2, 3, 4};
        DollGarlands x = Tables.withKinds(10);
        for (int kind = 0; kind < 10; kind++) {
            Check.due("left of " + kind, x.kind(kind, 0), left[kind]);
            Check.due("right of " + kind, x.kind(kind, 1), right[kind]);
        }
    }

    private static void mirroredDollsHands() {
        Check.sentence("mirrored it has its right hand at the left, and its left hand at the right");
        for (int left = 0; left <= 5; left++) {
            for (int right = 0; right <= 5; right++) {
                DollGarlands x = new DollGarlands();
                x.setHands(2, left, right);
                x.cutDoll(2, false);
                x.cutDoll(2, true);
                Check.due("as cut, left", x.doll(0, 0, 2), left);
                Check.due("as cut, right", x.doll(0, 0, 3), right);
                Check.due("mirrored, left", x.doll(1, 0, 2), right);
                Check.due("mirrored, right", x.doll(1, 0, 3), left);
            }
        }
    }

    /** Makes two dolls to hang side by side, the hands that would not meet told apart from those that do. */
    private static DollGarlands twoDolls(int rule, int right, boolean mirrored, int left, boolean nextMirrored, int outer) {
        DollGarlands x = new DollGarlands();
        x.setRule(rule);
        x.setHands(0, mirrored ? right : outer, mirrored ? outer : right);
        x.setHands(1, nextMirrored ? outer : left, nextMirrored ? left : outer);
        x.cutDoll(0, mirrored);
        x.cutDoll(1, nextMirrored);
        return x;
    }

    private static void meet(int rule, int right, boolean mirrored, int left, boolean nextMirrored, boolean clash) {
        String which = "rule " + rule + ", " + right + (mirrored ? "'" : "") + " meets " + left + (nextMirrored ? "'" : "");
        for (int outer = 0; outer <= 5; outer++) {
            DollGarlands x = twoDolls(rule, right, mirrored, left, nextMirrored, outer);
            Check.due(which + ", reason", x.reason(0, 1), clash ? 2 : 0);
            Check.holds(which + ", between", x.between(0, 1) == 0 != clash);
            String text = "0" + (mirrored ? "'" : "") + ",1" + (nextMirrored ? "'" : "");
            Check.due(which + ", read", Check.read(x, text), clash ? DollGarlands.NOT_POSSIBLE : 2);
            Check.due(which + ", joined", x.join(0, 1), clash ? DollGarlands.NOT_POSSIBLE : 2);
        }
    }

    private static void meetInAllWays(int rule, int right, int left, boolean clash, boolean clashMirrored) {
        meet(rule, right, false, left, false, clash);
        meet(rule, right, true, left, true, clash);
        meet(rule, right, false, left, true, clashMirrored);
        meet(rule, right, true, left, false, clashMirrored);
    }

    private static void handsThatMeet() {
        Check.sentence("the hand at the right of the former and the hand at the left of the latter meet");
        // The former's left hand and the latter's right one are alike, the two that meet are not.
        DollGarlands x = new DollGarlands();
        x.setRule(1);
        x.setHands(0, 4, 1);
        x.setHands(1, 2, 4);
        Check.due("0,1", Check.read(x, "0,1"), 0);
        Check.due("1,0", Check.read(x, "1,0"), DollGarlands.NOT_POSSIBLE);
        Check.due("1',0'", Check.read(x, "1',0'"), 1);
        Check.due("0',1'", Check.read(x, "0',1'"), DollGarlands.NOT_POSSIBLE);
    }

    private static void noHandNeverClashes() {
        Check.sentence("if either is 0 they never clash");
        for (int rule = 0; rule <= 2; rule++) {
            for (int hand = 0; hand <= 5; hand++) {
                meetInAllWays(rule, 0, hand, false, false);
                meetInAllWays(rule, hand, 0, false, false);
            }
        }
    }

    private static void settingZeroRange() {
        Check.sentence("the setting 0: 0 to 2");
        DollGarlands x = new DollGarlands();
        Check.due("setRule(2)", x.setRule(2), 0);
        Check.due("setRule(3)", x.setRule(3), DollGarlands.BAD_VALUE);
        Check.due("still 2", x.count(4), 2);
        Check.due("setRule(0)", x.setRule(0), 2);
        for (int far : Tables.FAR) {
            Check.due("setRule(" + far + ")", x.setRule(far), DollGarlands.BAD_VALUE);
        }
        Check.due("still 0", x.count(4), 0);
    }

    private static void settingZeroAtFirst() {
        Check.sentence("the setting 0: 0 at first");
        Check.due("count(4)", new DollGarlands().count(4), 0);
        Check.due("setRule(0)", new DollGarlands().setRule(0), DollGarlands.NONE);
        Check.due("setRule(1)", new DollGarlands().setRule(1), 0);
    }

    private static void ruleZero() {
        Check.sentence("0 if they are alike and one doll alone of both is mirrored");
        for (int right = 1; right <= 5; right++) {
            for (int left = 1; left <= 5; left++) {
                meetInAllWays(0, right, left, false, right == left);
            }
        }
    }

    private static void ruleOne() {
        Check.sentence("1 if they are alike");
        for (int right = 1; right <= 5; right++) {
            for (int left = 1; left <= 5; left++) {
                meetInAllWays(1, right, left, right == left, right == left);
            }
        }
    }

    private static void ruleTwo() {
        Check.sentence("2 if they are not alike");
        for (int right = 1; right <= 5; right++) {
            for (int left = 1; left <= 5; left++) {
                meetInAllWays(2, right, left, right != left, right != left);
            }
        }
    }
}
