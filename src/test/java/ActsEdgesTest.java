import java.util.Arrays;

/** Promises 2 to 16: each @return line and each line of an argument that names a boundary has a test of its own. */
public final class ActsEdgesTest {
    private static final String[] PAIRS = {"0,0", "0,0'", "0',0", "0',0'", "0,1", "0,1'", "0',1", "0',1'",
        "1,0", "1,0'", "1',0", "1',0'", "1,1", "1,1'", "1',1", "1',1'"};

    private ActsEdgesTest() {
    }

    public static void main(String[] args) {
        setHandsPrevious();
        setHandsNone();
        setHandsClash();
        setHandsClashWhereverItIs();
        setHandsOfAGoneGarland();
        setRulePrevious();
        setRuleClash();
        setRuleClashWhereverItIs();
        setKindsPrevious();
        setKindsKeepsHands();
        setKindsMissing();
        setKindsOfAGoneDoll();
        cutDollHangs();
        joinKeepsTheFirst();
        joinSame();
        joinClash();
        cutApartPlaces();
        cutApartOfEachGarland();
        turnTells();
        foldClash();
        takeAwayTells();
        typeAndClearTell();
        readGarlandKinds();
        readGarlandText();
        readGarlandShorterText();
        undoTells();
        keepAndRestoreTell();
        Check.finish();
    }

    private static void setHandsPrevious() {
        Check.sentence("setHands returns 10 times the previous left hand, and the right one");
        for (int left = 0; left <= 5; left++) {
            for (int right = 0; right <= 5; right++) {
                DollGarlands x = new DollGarlands();
                x.setHands(1, left, right);
                Check.due("from " + left + ", " + right, x.setHands(1, 5 - left, right), 10 * left + right);
                Check.due("left", x.kind(1, 0), 5 - left);
                Check.due("right", x.kind(1, 1), right);
                Check.due("and on", x.setHands(1, 5 - left, 5 - right), 10 * (5 - left) + right);
                Check.due("left of another kind", x.kind(0, 0), 0);
                Check.due("right of another kind", x.kind(2, 1), 3);
            }
        }
    }

    private static void setHandsNone() {
        Check.sentence("setHands returns NONE if both are so already");
        for (int kind = 0; kind <= 9; kind++) {
            DollGarlands x = Tables.withKinds(10);
            int left = kind % 6;
            int right = (kind + 1) % 6;
            Check.due("both", x.setHands(kind, left, right), DollGarlands.NONE);
            Check.due("the left one alone", x.setHands(kind, left, (right + 1) % 6), 10 * left + right);
            Check.due("back", x.setHands(kind, left, right), 10 * left + (right + 1) % 6);
            Check.due("the right one alone", x.setHands(kind, (left + 1) % 6, right), 10 * left + right);
        }
    }

    private static boolean clash(int rule, int right, boolean mirrored, int left, boolean nextMirrored) {
        if (right == 0 || left == 0) {
            return false;
        }
        return rule == 2 ? right != left : right == left && (rule == 1 || mirrored != nextMirrored);
    }

    /** Tells whether two dolls of the kinds 0 and 1 clash, by the hands of both. */
    private static boolean clash(int rule, String pair, int... hands) {
        boolean mirrored = pair.charAt(1) == '\'';
        String next = pair.substring(pair.indexOf(',') + 1);
        boolean nextMirrored = next.endsWith("'");
        int right = hands[2 * (pair.charAt(0) - '0') + (mirrored ? 0 : 1)];
        int left = hands[2 * (next.charAt(0) - '0') + (nextMirrored ? 1 : 0)];
        return clash(rule, right, mirrored, left, nextMirrored);
    }

    private static DollGarlands hanging(int rule, String... garlands) {
        DollGarlands x = Tables.withoutHands(3, garlands);
        x.setRule(rule);
        return x;
    }

    private static void setHandsClash() {
        Check.sentence("setHands returns NOT_POSSIBLE if hands would clash in a garland");
        for (int rule = 0; rule <= 2; rule++) {
            for (String pair : PAIRS) {
                for (int hands = 0; hands < 256; hands++) {
                    setHandsClash(rule, pair, hands & 3, hands >> 2 & 3, hands >> 4 & 3, hands >> 6);
                }
            }
        }
    }

    private static void setHandsClash(int rule, String pair, int left0, int right0, int left1, int right1) {
        DollGarlands x = hanging(rule, pair);
        String which = "rule " + rule + ", " + pair + ", hands " + left0 + right0 + " " + left1 + right1;
        boolean clash = clash(rule, pair, left0, right0, 0, 0);
        boolean none = left0 + right0 == 0;
        int done = none ? DollGarlands.NONE : 0;
        Check.due(which + ", of 0", x.setHands(0, left0, right0), clash ? DollGarlands.NOT_POSSIBLE : done);
        if (!clash) {
            boolean then = clash(rule, pair, left0, right0, left1, right1);
            done = left1 + right1 == 0 ? DollGarlands.NONE : 0;
            Check.due(which + ", of 1", x.setHands(1, left1, right1), then ? DollGarlands.NOT_POSSIBLE : done);
            Check.due(which + ", left of 1", x.kind(1, 0), then ? 0 : left1);
            Check.due(which + ", right of 1", x.kind(1, 1), then ? 0 : right1);
        }
        Check.due(which + ", left of 0", x.kind(0, 0), clash ? 0 : left0);
        Check.due(which + ", right of 0", x.kind(0, 1), clash ? 0 : right0);
    }

    /** Makes a garland of 32 dolls of the kind 2, but for two of the kind 0 side by side. */
    private static String with00At(int place) {
        String[] dolls = Check.many("2", 32).split(",");
        dolls[place] = "0";
        dolls[place + 1] = "0'";
        return String.join(",", dolls);
    }

    private static void setHandsClashWhereverItIs() {
        Check.sentence("setHands returns NOT_POSSIBLE if hands would clash, in each garland, at each place");
        for (int garland = 0; garland <= 7; garland++) {
            for (int place : new int[] {0, 1, 15, 29, 30}) {
                String[] texts = new String[garland + 1];
                Arrays.fill(texts, "2,1");
                texts[garland] = with00At(place);
                DollGarlands x = hanging(0, texts);
                String which = "garland " + garland + ", place " + place;
                Check.due(which, x.setHands(0, 1, 1), DollGarlands.NOT_POSSIBLE);
                Check.due(which + ", the outer hands", x.setHands(0, 1, 0), 0);
                x.takeAway(garland);
                Check.due(which + ", without it", x.setHands(0, 1, 1), 10);
            }
        }
    }

    private static void setHandsOfAGoneGarland() {
        Check.sentence("setHands: hands would clash in a garland, not where one was");
        DollGarlands x = hanging(0, with00At(0), with00At(30), "2");
        x.takeAway(0);
        Check.due("cut apart in between", x.cutApart(1, 31), 0);
        Check.due("setHands(0, 1, 1)", x.setHands(0, 1, 1), 0);
        Check.due("setHands(2, 1, 1)", x.setHands(2, 1, 1), 0);
        Check.due("the doll behind is of another garland", x.garland(1, 0), 31);
    }

    private static void setRulePrevious() {
        Check.sentence("setRule returns the previous one; NONE if it is so already");
        for (int from = 0; from <= 2; from++) {
            for (int to = 0; to <= 2; to++) {
                DollGarlands x = new DollGarlands();
                x.setRule(from);
                Check.due("from " + from + " to " + to, x.setRule(to), from == to ? DollGarlands.NONE : from);
                Check.due("count(4)", x.count(4), to);
            }
        }
    }

    private static void setRuleClash() {
        Check.sentence("setRule returns NOT_POSSIBLE if hands would clash in a garland");
        for (int from = 0; from <= 2; from++) {
            for (String pair : PAIRS) {
                for (int hands = 0; hands < 256; hands++) {
                    setRuleClash(from, pair, hands & 3, hands >> 2 & 3, hands >> 4 & 3, hands >> 6);
                }
            }
        }
    }

    private static void setRuleClash(int from, String pair, int... hands) {
        if (clash(from, pair, hands)) {
            return;
        }
        for (int to = 0; to <= 2; to++) {
            DollGarlands x = new DollGarlands();
            x.setRule(from);
            x.setHands(0, hands[0], hands[1]);
            x.setHands(1, hands[2], hands[3]);
            Check.due("reading " + pair, Check.read(x, pair), 0);
            boolean clash = clash(to, pair, hands);
            int due = clash ? DollGarlands.NOT_POSSIBLE : from == to ? DollGarlands.NONE : from;
            Check.due(pair + " from " + from + " to " + to, x.setRule(to), due);
            Check.due("the rule", x.count(4), clash ? from : to);
        }
    }

    private static void setRuleClashWhereverItIs() {
        Check.sentence("setRule returns NOT_POSSIBLE if hands would clash, in each garland, at each place");
        for (int garland = 0; garland <= 7; garland++) {
            for (int place : new int[] {0, 1, 15, 29, 30}) {
                String[] texts = new String[garland + 1];
                Arrays.fill(texts, "2,1");
                texts[garland] = with00At(place);
                DollGarlands x = hanging(2, texts);
                String which = "garland " + garland + ", place " + place;
                Check.due(which + ", hands", x.setHands(0, 3, 3), 0);
                Check.due(which + ", rule 0", x.setRule(0), DollGarlands.NOT_POSSIBLE);
                Check.due(which + ", rule 1", x.setRule(1), DollGarlands.NOT_POSSIBLE);
                x.takeAway(garland);
                Check.due(which + ", without it", x.setRule(0), 2);
            }
        }
    }

    private static void setKindsPrevious() {
        Check.sentence("setKinds returns the previous number; NONE if it is so already");
        for (int from = 1; from <= 10; from++) {
            for (int to = 1; to <= 10; to++) {
                DollGarlands x = Tables.withKinds(from);
                Check.due("from " + from + " to " + to, x.setKinds(to), from == to ? DollGarlands.NONE : from);
                Check.due("count(5)", x.count(5), to);
            }
        }
    }

    private static void setKindsKeepsHands() {
        Check.sentence("all keep their hands, also those that are no kinds for some time");
        for (int kinds = 1; kinds <= 9; kinds++) {
            DollGarlands x = Tables.withKinds(10);
            for (int kind = 0; kind <= 9; kind++) {
                x.setHands(kind, 5 - kind % 6, kind % 5);
            }
            x.setKinds(kinds);
            Check.due("no kind", x.setHands(kinds, 0, 0), DollGarlands.UNKNOWN);
            Check.due("setKinds(10)", x.setKinds(10), kinds);
            for (int kind = 0; kind <= 9; kind++) {
                Check.due("left of " + kind, x.kind(kind, 0), 5 - kind % 6);
                Check.due("right of " + kind, x.kind(kind, 1), kind % 5);
            }
        }
    }

    private static void setKindsMissing() {
        Check.sentence("setKinds returns NOT_POSSIBLE if a doll of a garland would have no kind");
        for (int garland = 0; garland <= 7; garland++) {
            for (int kind = 0; kind <= 9; kind++) {
                for (int place : new int[] {0, 1, 30, 31}) {
                    setKindsMissing(garland, kind, place);
                }
            }
        }
    }

    private static void setKindsMissing(int garland, int kind, int place) {
        String[] dolls = Check.many("0", 32).split(",");
        dolls[place] = kind + (garland % 2 == 0 ? "" : "'");
        String[] texts = new String[garland + 1];
        Arrays.fill(texts, "0");
        texts[garland] = String.join(",", dolls);
        DollGarlands x = Tables.withoutHands(10, texts);
        String which = "kind " + kind + " in garland " + garland + " at " + place;
        if (kind > 0) {
            Check.due(which + ", just too few", x.setKinds(kind), DollGarlands.NOT_POSSIBLE);
            Check.due(which + ", one", x.setKinds(1), DollGarlands.NOT_POSSIBLE);
            Check.due(which + ", as they were", x.count(5), 10);
        }
        Check.due(which + ", just enough", x.setKinds(kind + 1), kind == 9 ? DollGarlands.NONE : 10);
        Check.due(which + ", count(5)", x.count(5), kind + 1);
    }

    private static void setKindsOfAGoneDoll() {
        Check.sentence("setKinds: a doll of a garland, not one that was");
        DollGarlands x = Tables.withoutHands(3, Check.many("0", 31) + ",2", "2," + Check.many("0", 31), "0", "2");
        Check.due("cutApart(0, 31)", x.cutApart(0, 31), 4);
        x.takeAway(4);
        x.turn(1);
        Check.due("cutApart(1, 31)", x.cutApart(1, 31), 4);
        x.takeAway(4);
        Check.due("the last one is there", x.setKinds(2), DollGarlands.NOT_POSSIBLE);
        x.takeAway(3);
        Check.due("all are gone", x.setKinds(1), 3);
    }

    private static void cutDollHangs() {
        Check.sentence("cutDoll: a kind; whether the doll hangs mirrored; returns its number");
        for (int kind = 0; kind <= 9; kind++) {
            DollGarlands x = Tables.withKinds(10, "0");
            Check.due("as cut", x.cutDoll(kind, false), 1);
            Check.due("mirrored", x.cutDoll(kind, true), 2);
            Check.garland(x, 0, "0");
            Check.garland(x, 1, "" + kind);
            Check.garland(x, 2, kind + "'");
            Check.due("states", x.count(8), 4);
        }
    }

    private static DollGarlands eight() {
        return Tables.withoutHands(10, "0,1", "1,2", "2,3", "3,4", "4,5", "5,6", "6,7", "7,8");
    }

    private static void joinKeepsTheFirst() {
        Check.sentence("join: the second one's dolls come behind those of the first, which keeps its number");
        for (int first = 0; first <= 7; first++) {
            for (int second = 0; second <= 7; second++) {
                if (first != second) {
                    DollGarlands x = eight();
                    Check.due("join(" + first + ", " + second + ")", x.join(first, second), 4);
                    String joined = first + "," + (first + 1) + "," + second + "," + (second + 1);
                    for (int garland = 0; garland <= 7; garland++) {
                        String apart = garland + "," + (garland + 1);
                        Check.garland(x, garland, garland == first ? joined : garland == second ? "-" : apart);
                    }
                    Check.due("the second one is gone", x.takeAway(second), DollGarlands.UNKNOWN);
                    Check.due("its number is free", x.cutDoll(9, false), second);
                }
            }
        }
    }

    private static void joinSame() {
        Check.sentence("join returns BAD_VALUE if both are the same");
        for (int garland = 0; garland <= 7; garland++) {
            DollGarlands x = eight();
            Check.due("join(" + garland + ", itself)", x.join(garland, garland), DollGarlands.BAD_VALUE);
            Check.garland(x, garland, garland + "," + (garland + 1));
        }
        Check.due("two of the same dolls", Tables.of("0", "0").join(1, 0), 2);
    }

    private static void joinClash() {
        Check.sentence("join returns NOT_POSSIBLE if hands would clash");
        DollGarlands x = Tables.of("2,0,1", "1',0,2'", "0");
        Check.due("join(0, 1)", x.join(0, 1), DollGarlands.NOT_POSSIBLE);
        Check.due("reason(0, 1)", x.reason(0, 1), 2);
        Check.due("join(1, 0)", x.join(1, 0), DollGarlands.NOT_POSSIBLE);
        Check.garland(x, 0, "2,0,1");
        Check.garland(x, 1, "1',0,2'");
        Check.due("join(0, 2), so that another hand is at its right", x.join(0, 2), 4);
        Check.due("join(0, 1) then", x.join(0, 1), 7);
        Check.garland(x, 0, "2,0,1,0,1',0,2'");
        DollGarlands y = Tables.of("2,0,1", "1',0,2'");
        Check.due("turn(1), so that another hand is at its left", y.turn(1), 1);
        Check.due("join(0, 1) then", y.join(0, 1), 6);
        Check.garland(y, 0, "2,0,1,2,0',1");
    }

    private static void cutApartPlaces() {
        Check.sentence("cutApart: the place is 1 to one less than it has dolls");
        for (int dolls = 1; dolls <= 32; dolls++) {
            String text = dolls == 1 ? "1" : "1," + Check.many("0", dolls - 1);
            for (int place = -1; place <= 33; place++) {
                cutApartAt(Tables.withoutHands(3, text, Check.many("2", 32)), text, dolls, place);
            }
        }
        for (int far : Tables.FAR) {
            Check.due("place " + far, Tables.of("0,0").cutApart(0, far), DollGarlands.BAD_VALUE);
        }
    }

    private static void cutApartAt(DollGarlands x, String text, int dolls, int place) {
        boolean fits = place >= 1 && place <= dolls - 1;
        String which = place + " of " + dolls;
        Check.due(which, x.cutApart(0, place), fits ? 2 : DollGarlands.BAD_VALUE);
        Check.garland(x, 0, fits ? text.substring(0, 2 * place - 1) : text);
        Check.garland(x, 2, fits ? text.substring(2 * place) : "-");
        Check.garland(x, 1, Check.many("2", 32));
    }

    private static void cutApartOfEachGarland() {
        Check.sentence("cutApart: the dolls from a place on are a new garland, of each garland into each number");
        for (int garland = 0; garland <= 7; garland++) {
            for (int number = 0; number <= 7; number++) {
                for (int place : new int[] {1, 16, 31}) {
                    if (garland != number) {
                        cutApartInto(garland, number, place);
                    }
                }
            }
        }
    }

    private static void cutApartInto(int garland, int number, int place) {
        DollGarlands x = eight();
        x.takeAway(garland);
        String text = Check.many("0,1,2,3", 8);
        Check.due("reading", Check.read(x, text), garland);
        x.takeAway(number);
        Check.due("cutApart(" + garland + ", " + place + ")", x.cutApart(garland, place), number);
        for (int each = 0; each <= 7; each++) {
            String apart = each == garland ? text.substring(0, 2 * place - 1)
                : each == number ? text.substring(2 * place) : each + "," + (each + 1);
            Check.garland(x, each, apart);
        }
    }

    private static void turnTells() {
        Check.sentence("turn returns how many of its dolls are mirrored then");
        for (int mirrored = 0; mirrored <= 16; mirrored++) {
            String text = Check.many("0", 32 - mirrored) + (mirrored == 0 ? "" : "," + Check.many("1'", mirrored));
            DollGarlands x = Tables.withoutHands(3, "2'", text);
            Check.due("turn", x.turn(1), 32 - mirrored);
            Check.due("garland(1, 3)", x.garland(1, 3), 32 - mirrored);
            Check.due("turned back", x.turn(1), mirrored);
            Check.due("garland(1, 3)", x.garland(1, 3), mirrored);
        }
    }

    private static void foldClash() {
        Check.sentence("fold returns NOT_POSSIBLE if hands would clash");
        for (int rule = 0; rule <= 2; rule++) {
            for (int hand = 0; hand <= 5; hand++) {
                boolean clash = rule < 2 && hand != 0;
                DollGarlands x = new DollGarlands();
                x.setRule(rule);
                // The outer hands are such as would clash if they were the ones that meet, or would not.
                x.setHands(0, hand == 0 ? 3 : 0, hand);
                x.setHands(1, hand, hand == 0 ? 3 : 0);
                Check.due("reading", Check.read(x, "0"), 0);
                Check.due("reading", Check.read(x, "1'"), 1);
                String which = "rule " + rule + ", hand " + hand;
                Check.due(which, x.fold(0), clash ? DollGarlands.NOT_POSSIBLE : 2);
                Check.due(which + ", mirrored", x.fold(1), clash ? DollGarlands.NOT_POSSIBLE : 2);
                Check.garland(x, 0, clash ? "0" : "0,0'");
                Check.garland(x, 1, clash ? "1'" : "1',1");
                x.setHands(2, 0, hand);
                Check.due("reading", Check.read(x, "0',2"), 2);
                Check.due(which + ", by the last doll", x.fold(2), clash ? DollGarlands.NOT_POSSIBLE : 4);
                Check.garland(x, 2, clash ? "0',2" : "0',2,2',0");
            }
        }
    }

    private static void takeAwayTells() {
        Check.sentence("takeAway returns how many dolls it had");
        for (int dolls = 1; dolls <= 32; dolls++) {
            DollGarlands x = Tables.of("1", Check.many("0", dolls), "2");
            Check.due("takeAway(1)", x.takeAway(1), dolls);
            Check.due("takeAway(1) once more", x.takeAway(1), DollGarlands.UNKNOWN);
            Check.due("garlands", x.count(0), 2);
            Check.due("dolls", x.count(1), 2);
        }
        DollGarlands x = eight();
        for (int garland = 7; garland >= 0; garland--) {
            Check.due("takeAway(" + garland + ")", x.takeAway(garland), 2);
            Check.due("garlands", x.count(0), garland);
        }
    }

    private static void typeAndClearTell() {
        Check.sentence("type returns the length of the text then, clearText the length that it had");
        for (int length = 0; length <= 80; length++) {
            DollGarlands x = new DollGarlands();
            for (int i = 1; i <= length; i++) {
                Check.due("type", x.type((char) (i * 811)), i);
            }
            Check.due("count(9)", x.count(9), length);
            Check.due("clearText()", x.clearText(), length);
            Check.due("clearText() once more", x.clearText(), 0);
            Check.due("count(9)", x.count(9), 0);
        }
    }

    private static void readGarlandKinds() {
        Check.sentence("readGarland returns UNKNOWN if it has a doll that is of no kind");
        for (int kinds = 1; kinds <= 10; kinds++) {
            for (int place : new int[] {0, 1, 30, 31}) {
                String[] dolls = Check.many("0", 32).split(",");
                dolls[place] = kinds - 1 + "'";
                DollGarlands x = Tables.withoutHands(kinds);
                Check.due("the last kind of " + kinds, Check.read(x, String.join(",", dolls)), 0);
                if (kinds < 10) {
                    dolls[place] = kinds + "";
                    Check.due("no kind of " + kinds, Check.read(x, String.join(",", dolls)), DollGarlands.UNKNOWN);
                }
            }
        }
    }

    private static void readGarlandText() {
        Check.sentence("readGarland makes a new garland of the text, which stays");
        DollGarlands x = new DollGarlands();
        Check.due("reading", Check.read(x, "0',0,1'"), 0);
        for (int garland = 1; garland <= 7; garland++) {
            Check.due("readGarland() once more", x.readGarland(), garland);
            Check.garland(x, garland, "0',0,1'");
            Check.due("characters", x.count(9), 7);
        }
        Check.due("a ninth", x.readGarland(), DollGarlands.FULL);
        x.takeAway(3);
        Check.due("a character more", x.type(','), 8);
        Check.due("it ends too early", x.readGarland(), -108);
        Check.due("a character more", x.type('2'), 9);
        Check.due("readGarland() of the longer one", x.readGarland(), 3);
        Check.garland(x, 3, "0',0,1',2");
    }

    private static void readGarlandShorterText() {
        Check.sentence("readGarland makes a new garland of the text, not of one that was");
        DollGarlands x = Tables.withKinds(10);
        Check.due("a longer one", Check.read(x, "0,9'," + Check.many("0", 30)), 0);
        Check.due("it is taken away", x.takeAway(0), 32);
        Check.due("fewer kinds", x.setKinds(3), 10);
        Check.due("one doll", Check.read(x, "0"), 0);
        Check.garland(x, 0, "0");
        Check.due("hands that clash", Check.read(x, "0,1,1'"), DollGarlands.NOT_POSSIBLE);
        Check.due("without the last doll", Check.read(x, "0,1"), 1);
        Check.garland(x, 1, "0,1");
        Check.due("no kind", Check.read(x, "1,2,3"), DollGarlands.UNKNOWN);
        Check.due("without the last doll", Check.read(x, "1,2"), 2);
        Check.garland(x, 2, "1,2");
    }

    private static void undoTells() {
        Check.sentence("undo returns the number of states that are left; NONE if the history is empty");
        for (int acts = 0; acts <= 9; acts++) {
            DollGarlands x = new DollGarlands();
            for (int i = 1; i <= acts; i++) {
                x.setRule(i % 3);
            }
            int states = x.count(8);
            Check.holds("states of " + acts + " acts", states == Math.min(acts, 4));
            for (int left = states - 1; left >= 0; left--) {
                Check.due("undo()", x.undo(), left);
                Check.due("count(8)", x.count(8), left);
            }
            Check.due("undo() of none", x.undo(), DollGarlands.NONE);
        }
    }

    private static void keepAndRestoreTell() {
        Check.sentence("keep returns how many garlands there are, restore how many there are then");
        for (int garlands = 0; garlands <= 8; garlands++) {
            DollGarlands x = new DollGarlands();
            for (int i = 0; i < garlands; i++) {
                x.cutDoll(i % 3, false);
            }
            Check.due("keep()", x.keep(), garlands);
            for (int i = 0; i < 8; i += 2) {
                x.takeAway(i);
            }
            Check.due("restore()", x.restore(), garlands);
            Check.due("count(0)", x.count(0), garlands);
            Check.due("keep() of it", x.keep(), garlands);
        }
    }
}
