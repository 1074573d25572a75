import java.util.Arrays;

/** Promise 21, where few dolls serve: all tables of one and of two kinds, and each doll that alone fits beside another. */
public final class BetweenEdgesTest {
    private static final int NONE = DollGarlands.NONE;
    /** Two kinds make four dolls, and no doll hangs twice in the fewest. */
    private static final int MOST_BETWEEN = 4;

    private BetweenEdgesTest() {
    }

    public static void main(String[] args) {
        ofOneKind();
        ofTwoKinds();
        theOnlyDollBeside();
        Check.finish();
    }

    /** A doll is here twice its kind, and one more if it is mirrored. */
    private static boolean clash(int rule, int[][] hands, int doll, int next) {
        int right = hands[doll / 2][1 - doll % 2];
        int left = hands[next / 2][next % 2];
        if (right == 0 || left == 0) {
            return false;
        }
        return rule == 2 ? right != left : right == left && (rule == 1 || doll % 2 != next % 2);
    }

    /** Tells whether just so many dolls serve, by trying them all. */
    private static boolean serve(int rule, int[][] hands, int last, int first, int dolls) {
        if (dolls == 0) {
            return !clash(rule, hands, last, first);
        }
        for (int doll = 0; doll < 2 * hands.length; doll++) {
            if (!clash(rule, hands, last, doll) && serve(rule, hands, doll, first, dolls - 1)) {
                return true;
            }
        }
        return false;
    }

    private static int fewest(int rule, int[][] hands, int last, int first) {
        for (int dolls = 0; dolls <= MOST_BETWEEN; dolls++) {
            if (serve(rule, hands, last, first, dolls)) {
                return dolls;
            }
        }
        return NONE;
    }

    /** Asks between each two dolls of the kinds, and between each one and the same once more. */
    private static void betweenAll(int rule, int[][] hands) {
        DollGarlands x = Tables.withKinds(hands.length);
        x.setRule(rule);
        for (int kind = 0; kind < hands.length; kind++) {
            x.setHands(kind, hands[kind][0], hands[kind][1]);
        }
        for (int doll = 0; doll < 2 * hands.length; doll++) {
            Check.due("its number", x.cutDoll(doll / 2, doll % 2 == 1), doll);
        }
        for (int last = 0; last < 2 * hands.length; last++) {
            for (int first = 0; first < 2 * hands.length; first++) {
                String which = "rule " + rule + ", hands " + Arrays.deepToString(hands) + ", ";
                Check.due(which + "between(" + last + ", " + first + ")", x.between(last, first),
                    fewest(rule, hands, last, first));
            }
        }
    }

    private static void ofOneKind() {
        Check.sentence("between tells the fewest dolls, NONE if no dolls serve: one kind");
        for (int rule = 0; rule <= 2; rule++) {
            for (int hands = 0; hands < 36; hands++) {
                betweenAll(rule, new int[][] {{hands / 6, hands % 6}});
            }
        }
    }

    private static void ofTwoKinds() {
        Check.sentence("between tells the fewest dolls, NONE if no dolls serve: two kinds");
        for (int rule = 0; rule <= 2; rule++) {
            for (int hands = 0; hands < 625; hands++) {
                betweenAll(rule, new int[][] {{hands / 125, hands / 25 % 5}, {hands / 5 % 5, hands % 5}});
            }
        }
    }

    private static void theOnlyDollBeside() {
        Check.sentence("between: one doll alone fits behind the one garland, or ahead of the other one, and serves");
        for (int kinds = 2; kinds <= 10; kinds++) {
            for (int kind = 0; kind < kinds; kind++) {
                theOnlyDollBeside(kinds, kind, false);
                theOnlyDollBeside(kinds, kind, true);
            }
        }
    }

    /** By the rule 2 the kind leads from the hand 1 to the hand 2, and all other kinds have that hand alone. */
    private static void theOnlyDollBeside(int kinds, int kind, boolean mirrored) {
        DollGarlands x = Tables.withKinds(kinds);
        x.setRule(2);
        for (int each = 0; each < kinds; each++) {
            x.setHands(each, 2, 2);
        }
        x.setHands(kind, mirrored ? 2 : 1, mirrored ? 1 : 2);
        int other = kind == 0 ? 1 : 0;
        x.cutDoll(kind, !mirrored);
        x.cutDoll(other, false);
        x.cutDoll(kind, mirrored);
        String which = kinds + " kinds, kind " + kind + (mirrored ? " mirrored" : "");
        Check.due(which + ", alone behind the one garland", x.between(0, 1), 1);
        Check.due(which + ", alone ahead of the other one", x.between(1, 2), 1);
        Check.due(which + ", and none must", x.between(0, 2), 0);
        x.setHands(kind, 1, 1);
        Check.due(which + ", it leads nowhere", x.between(0, 1), NONE);
        Check.due(which + ", nothing leads to it", x.between(1, 2), NONE);
    }
}
