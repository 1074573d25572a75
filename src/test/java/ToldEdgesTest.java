import java.util.Arrays;

/** Promises 17 to 24: each @return line and each line of an argument that names a boundary has a test of its own. */
public final class ToldEdgesTest {
    private static final int UNKNOWN = DollGarlands.UNKNOWN;
    private static final int BAD_VALUE = DollGarlands.BAD_VALUE;
    private static final int NONE = DollGarlands.NONE;

    private ToldEdgesTest() {
    }

    public static void main(String[] args) {
        kindWhat();
        kindDolls();
        kindSameMirrored();
        garlandWhat();
        garlandEnds();
        garlandMirrored();
        garlandKinds();
        garlandRepeatOfEachLength();
        garlandRepeatBrokenAtEachPlace();
        garlandRepeatToldApart();
        garlandLowestAlike();
        garlandLowestAlikeDollByDoll();
        garlandLowestAlikeOf32Dolls();
        garlandAlone();
        garlandOfWhatIsLeft();
        dollWhat();
        dollAtEachPlace();
        reasonTooLong();
        reasonAsJoin();
        betweenUnknown();
        betweenNoneMust();
        betweenOfTheRules0And1();
        betweenOfTheRule2();
        betweenOfEachKind();
        betweenOfTheKindsThereAre();
        betweenTheSameOnceMore();
        betweenHoweverLong();
        waysLength();
        waysWhat();
        waysWithoutHands();
        waysAsCounted();
        waysOfTheKindsThereAre();
        waysWhereNoneHang();
        longestOfSeveral();
        longestOfAll();
        longestWithoutGarlands();
        countWhat();
        countOfAnEmptyTable();
        countOfAFullTable();
        countMeetingsAtEachPlace();
        countDifferent();
        countStatesAndCharacters();
        Check.finish();
    }

    private static void kindWhat() {
        Check.sentence("kind: what is 0 to 4");
        DollGarlands x = Tables.withKinds(10, "9',0,9");
        int[] due = {3, 4, 2, 1, 0};
        for (int what = 0; what <= 4; what++) {
            Check.due("kind(9, " + what + ")", x.kind(9, what), due[what]);
        }
        Check.due("kind(9, 5)", x.kind(9, 5), BAD_VALUE);
        for (int far : Tables.FAR) {
            Check.due("kind(9, " + far + ")", x.kind(9, far), BAD_VALUE);
        }
    }

    private static void kindDolls() {
        Check.sentence("kind: 2 for dolls of it in all garlands, 3 for those of them that are mirrored");
        String text = "7',1',0," + Check.many("9,9'", 14) + ",7";
        DollGarlands x = Tables.withoutHands(10, text);
        for (int garland = 1; garland < 8; garland++) {
            Check.due("readGarland()", x.readGarland(), garland);
            Check.due("dolls of 9", x.kind(9, 2), 28 * (garland + 1));
            Check.due("mirrored ones of 9", x.kind(9, 3), 14 * (garland + 1));
            Check.due("dolls of 7", x.kind(7, 2), 2 * (garland + 1));
            Check.due("mirrored ones of 7", x.kind(7, 3), garland + 1);
            Check.due("mirrored ones of 1", x.kind(1, 3), garland + 1);
            Check.due("mirrored ones of 0", x.kind(0, 3), 0);
            Check.due("dolls of 8", x.kind(8, 2), 0);
        }
        for (int left = 7; left >= 0; left--) {
            x.takeAway(left);
            Check.due("dolls of 9 in those that are left", x.kind(9, 2), 28 * left);
            Check.due("mirrored ones of 7 in those that are left", x.kind(7, 3), left);
        }
    }

    private static void kindSameMirrored() {
        Check.sentence("kind: 4 for whether it is the same mirrored (both hands alike)");
        for (int left = 0; left <= 5; left++) {
            for (int right = 0; right <= 5; right++) {
                DollGarlands x = new DollGarlands();
                x.setHands(2, left, right);
                Check.due("hands " + left + ", " + right, x.kind(2, 4), left == right ? 1 : 0);
            }
        }
    }

    private static void garlandWhat() {
        Check.sentence("garland: what is 0 to 7");
        DollGarlands x = Tables.of("0", "2',0");
        int[] due = {2, 3, 1, 1, 5, 0, 2, 1};
        for (int what = 0; what <= 7; what++) {
            Check.due("garland(1, " + what + ")", x.garland(1, what), due[what]);
        }
        Check.due("garland(1, 8)", x.garland(1, 8), BAD_VALUE);
        for (int far : Tables.FAR) {
            Check.due("garland(1, " + far + ")", x.garland(1, far), BAD_VALUE);
        }
    }

    private static void garlandEnds() {
        Check.sentence("garland: 1 for the hand at its left end, 2 for that at its right end");
        for (int dolls : new int[] {1, 2, 31, 32}) {
            for (int mirrored = 0; mirrored <= 3; mirrored++) {
                String first = (mirrored & 1) == 0 ? "1" : "1'";
                String last = (mirrored & 2) == 0 ? "2" : "2'";
                String text = dolls == 2 ? first + "," + last : first + "," + Check.many("0", dolls - 2) + "," + last;
                DollGarlands x = Tables.withoutHands(3, dolls == 1 ? first : text);
                x.setHands(1, 4, 0);
                x.setHands(2, 0, 5);
                Check.due("left end of " + text, x.garland(0, 1), (mirrored & 1) == 0 ? 4 : 0);
                int right = (mirrored & 2) == 0 ? 5 : 0;
                Check.due("right end of " + text, x.garland(0, 2), dolls == 1 ? 4 - x.garland(0, 1) : right);
            }
        }
    }

    private static void garlandMirrored() {
        Check.sentence("garland: 3 for mirrored dolls, 0 to all of them");
        for (int dolls = 1; dolls <= 32; dolls++) {
            DollGarlands x = Tables.withoutHands(3, "2'", Check.many("0", dolls));
            Check.due("none of " + dolls, x.garland(1, 3), 0);
            x.turn(1);
            Check.due("all of " + dolls, x.garland(1, 3), dolls);
            Check.due("in all garlands", x.count(2), dolls + 1);
        }
    }

    private static void garlandKinds() {
        Check.sentence("garland: 4 for its kinds, as a set");
        StringBuilder all = new StringBuilder("0");
        for (int kind = 0; kind <= 9; kind++) {
            DollGarlands x = Tables.withoutHands(10, kind + "," + kind + "'", "0," + kind + ",0,9'," + kind);
            Check.due("one kind", x.garland(0, 4), 1 << kind);
            Check.due("three kinds", x.garland(1, 4), 1 | 1 << kind | 512);
            all.append(",").append(kind);
            Check.due("reading", Check.read(x, all.toString()), 2);
            Check.due("the kinds up to " + kind, x.garland(2, 4), (2 << kind) - 1);
        }
    }

    /** The least p so that each doll is like that p places farther on, by looking at texts. */
    private static int repeat(String[] dolls) {
        int p = 1;
        boolean repeats = false;
        while (!repeats) {
            repeats = true;
            for (int place = 0; place + p < dolls.length; place++) {
                repeats = repeats && dolls[place].equals(dolls[place + p]);
            }
            p += repeats ? 0 : 1;
        }
        return p;
    }

    private static void repeats(String[] dolls) {
        String text = String.join(",", dolls);
        DollGarlands x = Tables.withoutHands(4, "0", text);
        Check.due("the repeat of " + text, x.garland(1, 6), repeat(dolls));
    }

    private static void garlandRepeatOfEachLength() {
        Check.sentence("garland: 6 for its repeat, the least number p, 1 or more");
        Check.due("one doll", Tables.of("2'").garland(0, 6), 1);
        Check.due("two dolls alike", Tables.of("2',2'").garland(0, 6), 1);
        Check.due("two dolls", Tables.of("2',0").garland(0, 6), 2);
        Check.due("32 dolls alike", Tables.of(Check.many("0", 32)).garland(0, 6), 1);
        Check.due("32 dolls, the last one another", Tables.of(Check.many("0", 31) + ",1").garland(0, 6), 32);
        Check.due("32 dolls, the first one another", Tables.of("2'," + Check.many("0", 31)).garland(0, 6), 32);
        Check.due("32 dolls, both ends alike", Tables.of("1," + Check.many("0", 30) + ",1").garland(0, 6), 31);
        for (int length = 1; length <= 32; length++) {
            for (int p = 1; p <= length; p++) {
                String[] dolls = new String[length];
                for (int place = 0; place < length; place++) {
                    dolls[place] = place % p == 0 ? "1" : place % p == p / 2 ? "0'" : "0";
                }
                if (String.join(",", dolls).length() <= 80) {
                    repeats(dolls);
                }
            }
        }
    }

    private static void garlandRepeatBrokenAtEachPlace() {
        Check.sentence("garland: 6 for its repeat, so that each doll is like that p places farther on");
        for (int p : new int[] {1, 2, 3, 5, 8, 15, 16, 17, 30, 31}) {
            String[] dolls = new String[32];
            for (int place = 0; place < 32; place++) {
                dolls[place] = place % p == 0 ? "1" : "0";
            }
            repeats(dolls);
            for (int place = 0; place < 32; place++) {
                String doll = dolls[place];
                dolls[place] = "3";
                repeats(dolls);
                dolls[place] = doll + "'";
                repeats(dolls);
                dolls[place] = doll;
            }
        }
    }

    private static void garlandRepeatToldApart() {
        Check.sentence("garland: a doll that is mirrored is not like one as cut, also if both hands are alike");
        DollGarlands x = Tables.withoutHands(3, "0,0'", "0,0',0", "0,0,0'", "0,0',0',0", "0',0',0'");
        int[] due = {2, 2, 3, 3, 1};
        for (int garland = 0; garland < due.length; garland++) {
            Check.due("the repeat of " + garland, x.garland(garland, 6), due[garland]);
        }
        DollGarlands y = Tables.withoutHands(3, "0,1,0,1", "0,1,0,2", "1,1,2,2");
        Check.due("kinds of the same hands are told apart too", y.garland(0, 6), 2);
        Check.due("kinds of the same hands are told apart too", y.garland(1, 6), 4);
        Check.due("kinds of the same hands are told apart too", y.garland(2, 6), 4);
    }

    private static void garlandLowestAlike() {
        Check.sentence("garland: 7 for the least number of a garland that is the same, or is its mirror image");
        DollGarlands x = Tables.of("1", "0,1", "2", "1',0'", "0,1", "1'", "0',1'", "2");
        int[] due = {0, 1, 2, 1, 1, 0, 6, 2};
        for (int garland = 0; garland < 8; garland++) {
            Check.due("the one like " + garland, x.garland(garland, 7), due[garland]);
        }
        Check.due("different ones", x.count(7), 4);
        x.takeAway(1);
        Check.due("that of the mirror image, without 1", x.garland(4, 7), 3);
        Check.due("itself, if there is no lower one", x.garland(3, 7), 3);
        x.takeAway(2);
        Check.due("itself, the last one", x.garland(7, 7), 7);
        x.takeAway(0);
        x.takeAway(3);
        Check.due("itself, without 0", x.garland(5, 7), 5);
        Check.due("itself, without 1 and 3", x.garland(4, 7), 4);
        Check.due("different ones", x.count(7), 4);
    }

    private static void garlandLowestAlikeDollByDoll() {
        Check.sentence("garland: 7, the same or its mirror image, of as many dolls and doll by doll");
        String text = "1,0,2',0,0,1',2,2";
        String mirror = "2',2',1,0',0',2,0',1'";
        DollGarlands x = Tables.withoutHands(4, text, text, mirror, text + ",0", "0," + text, mirror + ",0'");
        int[] due = {0, 0, 0, 3, 4, 4};
        for (int garland = 0; garland < due.length; garland++) {
            Check.due("the one like " + garland, x.garland(garland, 7), due[garland]);
        }
        String[] dolls = text.split(",");
        String[] mirrored = mirror.split(",");
        for (int place = 0; place < dolls.length; place++) {
            String doll = dolls[place];
            dolls[place] = doll.endsWith("'") ? doll.substring(0, 1) : doll + "'";
            String oneMirrored = String.join(",", dolls);
            dolls[place] = "3";
            DollGarlands y = Tables.withoutHands(4, text, oneMirrored, String.join(",", dolls), mirror);
            dolls[place] = doll;
            Check.due("one doll mirrored", y.garland(1, 7), 1);
            Check.due("one doll of another kind", y.garland(2, 7), 2);
            doll = mirrored[place];
            mirrored[place] = "3'";
            Check.due("reading", Check.read(y, String.join(",", mirrored)), 4);
            mirrored[place] = doll;
            // The mirror image of that with the kind 3 at the opposite place, which is this one or another.
            Check.due("of the mirror image", y.garland(4, 7), place == dolls.length - 1 - place ? 2 : 4);
        }
    }

    private static void garlandLowestAlikeOf32Dolls() {
        Check.sentence("garland: 7, the same or its mirror image, of 32 dolls, whatever hangs beside");
        String text = "1," + Check.many("0", 31);
        DollGarlands x = Tables.withoutHands(3, "2'", text, "2", text, "1");
        Check.due("the same", x.garland(3, 7), 1);
        x.turn(1);
        Check.due("its mirror image", x.garland(3, 7), 1);
        x.turn(3);
        Check.due("both turned round", x.garland(3, 7), 1);
        Check.due("different ones", x.count(7), 3);
        x.takeAway(2);
        Check.due("the last doll another", Check.read(x, text.substring(0, 62) + "2"), 2);
        Check.due("the last doll another", x.garland(2, 7), 2);
        x.turn(2);
        Check.due("the first doll another", x.garland(2, 7), 2);
    }

    private static void garlandAlone() {
        Check.sentence("garland: 7, itself, if there is no lower one");
        String[] dolls = {"0", "0'", "1", "1'", "2", "2'"};
        for (int number = 0; number < 6 * 6 * 6 * 6; number++) {
            String text = dolls[number % 6] + "," + dolls[number / 6 % 6];
            text += "," + dolls[number / 36 % 6] + "," + dolls[number / 216];
            DollGarlands x = new DollGarlands();
            if (Check.read(x, text) == 0) {
                Check.due("garland(0, 7) of " + text, x.garland(0, 7), 0);
                Check.due("count(7) of " + text, x.count(7), 1);
            }
        }
    }

    private static void garlandOfWhatIsLeft() {
        Check.sentence("garland: what is told is of the dolls that are there, not of those that were");
        DollGarlands x = Tables.withoutHands(3, "1,2',0," + Check.many("2", 29), "1", Check.many("0,2'", 16), "1'");
        x.cutApart(0, 1);
        x.takeAway(4);
        x.cutApart(2, 31);
        x.takeAway(4);
        int[][] due = {{1, 0, 0, 0, 2, 0, 1, 0}, {1, 0, 0, 0, 2, 0, 1, 0}, {31, 0, 0, 15, 5, 0, 2, 2}, {1, 0, 0, 1, 2, 0, 1, 0}};
        for (int garland = 0; garland < due.length; garland++) {
            for (int what = 0; what <= 7; what++) {
                Check.due("garland(" + garland + ", " + what + ")", x.garland(garland, what), due[garland][what]);
            }
        }
        int[] counts = {4, 34, 16, 0, 0, 3, 0, 2};
        for (int what = 0; what < counts.length; what++) {
            Check.due("count(" + what + ")", x.count(what), counts[what]);
        }
        Check.due("dolls of 2", x.kind(2, 2), 15);
        Check.due("dolls of 0", x.kind(0, 2), 16);
        Check.due("longest()", x.longest(), 2);
        x.setHands(1, 3, 3);
        x.setHands(2, 3, 3);
        Check.due("places where two hands meet", x.count(6), 0);
    }

    private static void dollWhat() {
        Check.sentence("doll: what is 0 to 3");
        DollGarlands x = Tables.of("0,2'");
        int[] due = {2, 1, 3, 2};
        for (int what = 0; what <= 3; what++) {
            Check.due("doll(0, 1, " + what + ")", x.doll(0, 1, what), due[what]);
        }
        Check.due("doll(0, 1, 4)", x.doll(0, 1, 4), BAD_VALUE);
        for (int far : Tables.FAR) {
            Check.due("doll(0, 1, " + far + ")", x.doll(0, 1, far), BAD_VALUE);
        }
    }

    private static void dollAtEachPlace() {
        Check.sentence("doll: a place in the garland, of each garland");
        DollGarlands x = Tables.withoutHands(10);
        for (int garland = 0; garland < 8; garland++) {
            // Each garland is of another order, and folded out to 32 dolls.
            Check.due("reading", Check.read(x, garland + "',9," + (garland + 1) + ",0'"), garland);
            for (int dolls = 8; dolls <= 32; dolls *= 2) {
                Check.due("fold", x.fold(garland), dolls);
            }
        }
        x.setHands(9, 1, 2);
        for (int garland = 0; garland < 8; garland++) {
            int[] kinds = {garland, 9, garland + 1, 0, 0, garland + 1, 9, garland};
            int[] mirrored = {1, 0, 0, 1, 0, 1, 1, 0};
            for (int place = 0; place < 32; place += garland % 2 == 0 ? 1 : 31) {
                Check.due("kind", x.doll(garland, place, 0), kinds[place % 8]);
                Check.due("mirrored", x.doll(garland, place, 1), mirrored[place % 8]);
            }
            Check.due("left of 9", x.doll(garland, 1, 2), 1);
            Check.due("right of 9, mirrored", x.doll(garland, 6, 3), 1);
            Check.due("behind the last", x.doll(garland, 32, 0), UNKNOWN);
        }
    }

    private static void reasonTooLong() {
        Check.sentence("reason returns 3 if it would be too long, 0 if they can be joined");
        for (int dolls = 1; dolls <= 32; dolls++) {
            for (int behind = 1; behind <= 32; behind++) {
                if (dolls + behind >= 31 && dolls + behind <= 34 || dolls == 32 || behind == 32) {
                    DollGarlands x = Tables.of(Check.many("0", dolls), Check.many("0", behind));
                    Check.due(dolls + " and " + behind, x.reason(0, 1), dolls + behind <= 32 ? 0 : 3);
                }
            }
        }
    }

    private static void reasonAsJoin() {
        Check.sentence("reason tells why two garlands cannot be joined, the other one behind");
        String[] texts = {"0,1", "1',0", "0,0", "2',1", "2", "1',1'", Check.many("0", 31), "2," + Check.many("0", 30)};
        int[] due = {0, DollGarlands.BAD_VALUE, DollGarlands.NOT_POSSIBLE, DollGarlands.FULL};
        for (int garland = 0; garland <= 8; garland++) {
            for (int other = 0; other <= 8; other++) {
                DollGarlands x = Tables.of(texts);
                int reason = x.reason(garland, other);
                int joined = x.join(garland, other);
                String which = garland + ", " + other + ": " + joined;
                Check.holds("reason " + which, garland < 8 && other < 8 ? reason >= 0 && reason <= 3 : reason == UNKNOWN);
                Check.due("as joined " + which, Math.min(joined, 0), reason < 0 ? UNKNOWN : due[reason]);
            }
        }
    }

    private static void betweenUnknown() {
        Check.sentence("between returns UNKNOWN (garland or other)");
        DollGarlands x = Tables.of("0", "1");
        for (int far : Tables.FAR) {
            Check.due("garland " + far, x.between(far, 0), UNKNOWN);
            Check.due("other " + far, x.between(0, far), UNKNOWN);
        }
        Check.due("garland 2", x.between(2, 0), UNKNOWN);
        Check.due("other 8", x.between(1, 8), UNKNOWN);
    }

    private static void betweenNoneMust() {
        Check.sentence("between returns 0 if none must");
        DollGarlands x = Tables.of("1", "1'", "0", "0'");
        Check.due("1 and 1", x.between(0, 0), 0);
        Check.due("1 and 1'", x.between(0, 1), 1);
        Check.due("1' and 1", x.between(1, 0), 1);
        Check.due("1' and 1'", x.between(1, 1), 0);
        Check.due("1 and 0", x.between(0, 2), 0);
        Check.due("0 and 0', hands alike", x.between(2, 3), 1);
        Check.due("0' and 0, no hands", x.between(3, 2), 0);
    }

    private static void betweenOfTheRules0And1() {
        Check.sentence("between returns 1 where a doll serves, NONE if no dolls serve (rules 0 and 1)");
        for (int rule = 0; rule <= 1; rule++) {
            DollGarlands x = Tables.withKinds(1);
            x.setRule(rule);
            x.setHands(0, 3, 3);
            x.cutDoll(0, false);
            x.cutDoll(0, true);
            Check.due("one kind of alike hands", x.between(0, 1), NONE);
            Check.due("one kind of alike hands", x.between(1, 0), NONE);
            Check.due("the same once more", x.between(1, 1), rule == 0 ? 0 : NONE);
            x.setKinds(2);
            x.setHands(1, 3, 3);
            Check.due("two kinds of alike hands", x.between(0, 1), NONE);
            x.setHands(1, 3, 0);
            Check.due("one that has no hand at one side", x.between(0, 1), rule == 0 ? 1 : NONE);
            x.setHands(1, 0, 3);
            Check.due("one that has no hand at one side", x.between(1, 0), rule == 0 ? 1 : NONE);
            x.setHands(1, 0, 0);
            Check.due("one without hands", x.between(0, 1), 1);
            x.setHands(1, 1, 2);
            Check.due("one of other hands", x.between(1, 0), 1);
        }
    }

    /** Makes two garlands of one doll, to be led from 1 to 5 by kinds whose hands are a step apart. */
    private static DollGarlands steps() {
        DollGarlands x = Tables.withKinds(6);
        x.setRule(2);
        int[][] hands = {{1, 1}, {5, 5}, {2, 1}, {2, 3}, {4, 3}, {4, 5}};
        for (int kind = 0; kind < 6; kind++) {
            x.setHands(kind, hands[kind][0], hands[kind][1]);
        }
        x.cutDoll(0, false);
        x.cutDoll(1, true);
        return x;
    }

    private static void betweenOfTheRule2() {
        Check.sentence("between returns the fewest, up to four, NONE if no dolls serve (rule 2)");
        DollGarlands x = steps();
        Check.due("four steps", x.between(0, 1), 4);
        Check.due("four steps back", x.between(1, 0), 4);
        x.setHands(2, 1, 3);
        Check.due("three steps", x.between(0, 1), 3);
        x.setHands(2, 4, 1);
        Check.due("two steps", x.between(1, 0), 2);
        x.setHands(2, 5, 1);
        Check.due("one step", x.between(0, 1), 1);
        x.setHands(2, 2, 1);
        x.setHands(4, 4, 4);
        Check.due("a step is missing", x.between(0, 1), NONE);
        Check.due("a step is missing back", x.between(1, 0), NONE);
        x.setHands(4, 0, 3);
        Check.due("a doll without one hand, as cut and mirrored, leads anywhere", x.between(0, 1), 2);
        Check.due("a doll without one hand, as cut and mirrored, leads anywhere", x.between(1, 0), 2);
        x.setHands(3, 0, 0);
        Check.due("a doll without hands", x.between(1, 0), 1);
        DollGarlands y = steps();
        y.takeAway(0);
        y.takeAway(1);
        y.setHands(0, 2, 2);
        y.cutDoll(0, true);
        y.cutDoll(1, false);
        Check.due("three steps from 2", y.between(0, 1), 3);
        Check.due("three steps to 2", y.between(1, 0), 3);
    }

    private static void betweenOfEachKind() {
        Check.sentence("between: a doll of each kind, as cut or mirrored, may be the only one that serves");
        for (int first = 0; first <= 9; first++) {
            for (int mirrored = 0; mirrored <= 7; mirrored++) {
                DollGarlands x = Tables.withKinds(10);
                x.setRule(2);
                for (int kind = 0; kind <= 9; kind++) {
                    x.setHands(kind, 5, 5);
                }
                int[] steps = {first, (first + 3) % 10, (first + 6) % 10};
                for (int step = 0; step < 3; step++) {
                    boolean asCut = (mirrored >> step & 1) == 0;
                    x.setHands(steps[step], asCut ? step + 1 : step + 2, asCut ? step + 2 : step + 1);
                }
                int from = (first + 1) % 10;
                int to = (first + 2) % 10;
                x.setHands(from, 1, 1);
                x.setHands(to, 4, 4);
                x.cutDoll(from, false);
                x.cutDoll(to, false);
                String which = "from " + from + " to " + to + " by " + Arrays.toString(steps) + ", " + mirrored;
                Check.due(which, x.between(0, 1), 3);
                Check.due(which + ", back", x.between(1, 0), 3);
                x.setHands(steps[mirrored % 3], 5, 5);
                Check.due(which + ", a step missing", x.between(0, 1), NONE);
            }
        }
    }

    private static void betweenOfTheKindsThereAre() {
        Check.sentence("between: dolls are of the kinds that there are");
        DollGarlands x = steps();
        Check.due("setKinds(5)", x.setKinds(5), 6);
        Check.due("the kind 5 is missing", x.between(0, 1), NONE);
        Check.due("setKinds(6)", x.setKinds(6), 5);
        Check.due("it is there again", x.between(0, 1), 4);
        x.setKinds(7);
        x.setHands(6, 5, 1);
        Check.due("the kind 6 as well", x.between(0, 1), 1);
        x.setKinds(6);
        Check.due("it is missing", x.between(0, 1), 4);
    }

    private static void betweenTheSameOnceMore() {
        Check.sentence("between: or the same one once more");
        DollGarlands x = Tables.of("1,0,1'", "1,1", "2',0,0");
        Check.due("1,0,1' once more", x.between(0, 0), 1);
        Check.due("1,1 once more", x.between(1, 1), 0);
        Check.due("2',0,0 once more", x.between(2, 2), 0);
        DollGarlands y = Tables.withKinds(2);
        y.setHands(0, 2, 2);
        y.setHands(1, 2, 2);
        Check.read(y, "0");
        y.setRule(1);
        Check.due("none serve the same once more", y.between(0, 0), NONE);
    }

    private static void betweenHoweverLong() {
        Check.sentence("between: however long that is");
        String text = Check.many("0", 31) + ",1";
        DollGarlands x = Tables.of(text, "1'," + Check.many("0", 31));
        Check.due("64 dolls and one", x.between(0, 1), 1);
        Check.due("64 dolls", x.between(1, 0), 0);
        Check.due("the same once more", x.between(0, 0), 0);
        DollGarlands y = steps();
        for (int dolls = 2; dolls <= 32; dolls *= 2) {
            y.fold(0);
            y.fold(1);
        }
        Check.due("dolls of both", y.count(1), 64);
        Check.due("64 dolls and four", y.between(0, 1), 4);
    }

    private static void waysLength() {
        Check.sentence("ways: the length is 1 to 6");
        DollGarlands x = new DollGarlands();
        for (int what = 0; what <= 2; what++) {
            Check.holds("length 1", x.ways(1, what) >= 0);
            Check.holds("length 6", x.ways(6, what) >= 0);
            Check.due("length 0", x.ways(0, what), BAD_VALUE);
            Check.due("length 7", x.ways(7, what), BAD_VALUE);
            for (int far : Tables.FAR) {
                Check.due("length " + far, x.ways(far, what), BAD_VALUE);
            }
        }
    }

    private static void waysWhat() {
        Check.sentence("ways: what is 0 to 2");
        DollGarlands x = new DollGarlands();
        for (int length = 1; length <= 6; length++) {
            Check.due("what -1", x.ways(length, -1), BAD_VALUE);
            Check.holds("what 0", x.ways(length, 0) > 0);
            Check.holds("what 2", x.ways(length, 2) > 0);
            Check.due("what 3", x.ways(length, 3), BAD_VALUE);
            for (int far : Tables.FAR) {
                Check.due("what " + far, x.ways(length, far), BAD_VALUE);
            }
        }
    }

    private static void waysWithoutHands() {
        Check.sentence("ways: dolls of each kind, as cut and mirrored, are all told apart");
        for (int kinds = 1; kinds <= 10; kinds++) {
            DollGarlands x = Tables.withoutHands(kinds);
            int all = 1;
            for (int length = 1; length <= 6; length++) {
                all *= 2 * kinds;
                int half = (int) Math.round(Math.pow(2 * kinds, length / 2));
                int own = length % 2 == 1 ? 0 : half;
                Check.due("all of " + length, x.ways(length, 0), all);
                Check.due("own mirror images of " + length, x.ways(length, 1), own);
                Check.due("mirror images as one of " + length, x.ways(length, 2), (all + own) / 2);
            }
        }
    }

    /** Counts by making all garlands: how many there are, and how many are their own mirror images. */
    private static void count(int[][] hands, int rule, int[] dolls, int place, int[] counts) {
        if (place == dolls.length) {
            counts[0]++;
            boolean own = true;
            for (int i = 0; i < dolls.length; i++) {
                int opposite = dolls[dolls.length - 1 - i];
                own = own && dolls[i] / 2 == opposite / 2 && dolls[i] % 2 != opposite % 2;
            }
            counts[1] += own ? 1 : 0;
            return;
        }
        for (int doll = 0; doll < 2 * hands.length; doll++) {
            dolls[place] = doll;
            int left = hands[doll / 2][doll % 2];
            int right = place == 0 ? 0 : hands[dolls[place - 1] / 2][1 - dolls[place - 1] % 2];
            boolean apart = place > 0 && dolls[place - 1] % 2 != doll % 2;
            boolean clash = rule == 2 ? left != right : left == right && (rule == 1 || apart);
            if (left == 0 || right == 0 || !clash) {
                count(hands, rule, dolls, place + 1, counts);
            }
        }
    }

    private static void waysAsCounted() {
        Check.sentence("ways: 0 for all, 1 for their own mirror images, 2 if mirror images count as one");
        int[][][] tables = {{{1, 1}}, {{1, 2}}, {{0, 1}}, {{4, 0}}, {{1, 2}, {2, 1}}, {{1, 1}, {1, 2}}, {{5, 3}, {5, 5}},
            {{0, 1}, {1, 2}, {2, 3}}, {{1, 0}, {2, 2}, {2, 1}}, {{3, 3}, {3, 3}, {3, 3}}, {{1, 2}, {2, 3}, {3, 1}}};
        for (int[][] hands : tables) {
            for (int rule = 0; rule <= 2; rule++) {
                DollGarlands x = Tables.withKinds(hands.length);
                x.setRule(rule);
                for (int kind = 0; kind < hands.length; kind++) {
                    x.setHands(kind, hands[kind][0], hands[kind][1]);
                }
                for (int length = 1; length <= 6; length++) {
                    int[] counts = new int[2];
                    count(hands, rule, new int[length], 0, counts);
                    String which = Arrays.deepToString(hands) + ", rule " + rule + ", length " + length;
                    Check.due("all, " + which, x.ways(length, 0), counts[0]);
                    Check.due("own mirror images, " + which, x.ways(length, 1), counts[1]);
                    Check.due("as one, " + which, x.ways(length, 2), counts[1] + (counts[0] - counts[1]) / 2);
                }
            }
        }
    }

    private static void waysOfTheKindsThereAre() {
        Check.sentence("ways: of the kinds that there are, whatever garlands there are");
        DollGarlands x = Tables.withoutHands(10, "0", "0,0");
        Check.due("ten kinds", x.ways(1, 0), 20);
        x.setKinds(1);
        Check.due("one kind", x.ways(1, 0), 2);
        Check.due("one kind, length 6", x.ways(6, 0), 64);
        Check.due("one kind, length 6, own mirror images", x.ways(6, 1), 8);
        x.setKinds(9);
        Check.due("nine kinds", x.ways(2, 0), 324);
        Check.due("nine kinds, own mirror images", x.ways(2, 1), 18);
    }

    private static void waysWhereNoneHang() {
        Check.sentence("ways: none where all hands clash, but those of one doll");
        DollGarlands x = Tables.withKinds(2);
        x.setRule(1);
        x.setHands(0, 2, 2);
        x.setHands(1, 2, 2);
        Check.due("one doll", x.ways(1, 0), 4);
        Check.due("one doll, own mirror images", x.ways(1, 1), 0);
        Check.due("one doll, mirror images as one", x.ways(1, 2), 2);
        for (int length = 2; length <= 6; length++) {
            for (int what = 0; what <= 2; what++) {
                Check.due("ways(" + length + ", " + what + ")", x.ways(length, what), 0);
            }
        }
    }

    private static void longestOfSeveral() {
        Check.sentence("longest: of several the lowest");
        for (int first = 0; first <= 7; first++) {
            for (int second = first + 1; second <= 7; second++) {
                String[] texts = {"0", "0", "0", "0", "0", "0", "0", "0"};
                texts[first] = "0,0,1";
                texts[second] = "1,1,1";
                DollGarlands x = Tables.of(texts);
                Check.due("two of three dolls", x.longest(), first);
                x.takeAway(first);
                Check.due("the other one alone", x.longest(), second);
            }
        }
        DollGarlands y = Tables.of("0", "0", "0");
        Check.due("all alike", y.longest(), 0);
        y.takeAway(0);
        Check.due("the lowest of those that are left", y.longest(), 1);
    }

    private static void longestOfAll() {
        Check.sentence("longest: the longest garland");
        for (int longest = 0; longest <= 7; longest++) {
            String[] texts = {"0,0", "1", "1", "0,0", "1,0,1", "1", "0,1,0,1", "1"};
            texts[longest] = Check.many("0", 31);
            DollGarlands x = Tables.of(texts);
            Check.due("31 dolls", x.longest(), longest);
            x.join(longest, longest == 1 ? 2 : 1);
            Check.due("32 dolls", x.longest(), longest);
        }
        for (int kind = 0; kind <= 9; kind++) {
            Check.due("one doll of the kind " + kind, Tables.withKinds(10, kind + "'").longest(), 0);
            Check.due("two dolls beside it", Tables.withKinds(10, kind + "'", "0,1", "1").longest(), 1);
        }
        Check.due("one more doll", Tables.of(Check.many("0", 31), Check.many("0", 32)).longest(), 1);
        Check.due("one doll less", Tables.of(Check.many("0", 32), Check.many("0", 31)).longest(), 0);
    }

    private static void longestWithoutGarlands() {
        Check.sentence("longest: NONE without garlands");
        Check.due("at first", new DollGarlands().longest(), NONE);
        DollGarlands x = Tables.of(Check.many("0", 32));
        Check.due("one", x.longest(), 0);
        x.takeAway(0);
        Check.due("none any more", x.longest(), NONE);
        x.undo();
        Check.due("there again", x.longest(), 0);
    }

    private static void countWhat() {
        Check.sentence("count: what is 0 to 9");
        DollGarlands x = new DollGarlands();
        for (int what = 0; what <= 9; what++) {
            Check.due("count(" + what + ")", x.count(what), what == 5 ? 3 : 0);
        }
        Check.due("count(10)", x.count(10), BAD_VALUE);
        for (int far : Tables.FAR) {
            Check.due("count(" + far + ")", x.count(far), BAD_VALUE);
        }
    }

    private static void countOfAnEmptyTable() {
        Check.sentence("count: a table whose garlands are gone");
        DollGarlands x = Tables.withoutHands(2, "0,0',0,0'", "1,1");
        x.takeAway(0);
        x.takeAway(1);
        int[] due = {0, 0, 0, 0, 0, 2, 0, 0, 4, 3};
        for (int what = 0; what <= 9; what++) {
            Check.due("count(" + what + ")", x.count(what), due[what]);
        }
    }

    private static void countOfAFullTable() {
        Check.sentence("count: 8 garlands of 32 dolls, the most of all");
        DollGarlands x = new DollGarlands();
        x.setKinds(10);
        x.setHands(0, 1, 1);
        Check.due("reading", Check.read(x, Check.many("0", 32)), 0);
        for (int garland = 1; garland < 8; garland++) {
            Check.due("readGarland()", x.readGarland(), garland);
        }
        int[] due = {8, 256, 0, 0, 0, 10, 248, 1, 4, 63};
        for (int what = 0; what <= 9; what++) {
            Check.due("count(" + what + ")", x.count(what), due[what]);
        }
        for (int garland = 0; garland < 8; garland++) {
            x.turn(garland);
        }
        Check.due("all mirrored", x.count(2), 256);
        Check.due("dolls of 0", x.kind(0, 2), 256);
        Check.due("mirrored ones of 0", x.kind(0, 3), 256);
        DollGarlands y = Tables.withoutHands(10, "0,1'", "1,1'", "2,1'", "3,1'", "4,1'", "5,1'", "6,1'", "7,1'");
        for (int garland = 0; garland < 8; garland++) {
            y.fold(garland);
            y.fold(garland);
            y.fold(garland);
            Check.due("32 dolls", y.fold(garland), 32);
        }
        y.setRule(2);
        int[] then = {8, 256, 128, 8, 2, 10, 0, 8, 4, 4};
        for (int what = 0; what <= 9; what++) {
            Check.due("count(" + what + ")", y.count(what), then[what]);
        }
    }

    private static void countMeetingsAtEachPlace() {
        Check.sentence("count: 6 for places where two hands meet that both are not 0");
        for (int place = 0; place <= 30; place++) {
            String[] dolls = Check.many("0", 32).split(",");
            dolls[place] = "1";
            dolls[place + 1] = "2";
            DollGarlands x = Tables.withoutHands(3, "1", String.join(",", dolls), "2");
            Check.due("none", x.count(6), 0);
            x.setHands(1, 0, 3);
            Check.due("a hand and none, at " + place, x.count(6), 0);
            x.setHands(2, 4, 0);
            Check.due("both, at " + place, x.count(6), 1);
            x.setHands(1, 3, 0);
            Check.due("none and a hand, at " + place, x.count(6), 0);
            x.setHands(0, 5, 5);
            int beside = (place > 0 ? 1 : 0);
            Check.due("all the others, beside " + place, x.count(6), beside + Math.max(0, place - 1) + Math.max(0, 29 - place));
        }
    }

    private static void countDifferent() {
        Check.sentence("count: 7 for how many garlands there are if mirror images, and the same, count as one");
        Check.due("none", new DollGarlands().count(7), 0);
        DollGarlands x = new DollGarlands();
        for (int garland = 0; garland < 8; garland++) {
            x.cutDoll(2, garland % 2 == 1);
            Check.due("all alike, " + garland, x.count(7), 1);
        }
        DollGarlands y = Tables.withoutHands(10);
        for (int garland = 0; garland < 8; garland++) {
            y.cutDoll(garland, true);
            Check.due("each another, " + garland, y.count(7), garland + 1);
        }
        DollGarlands z = Tables.withoutHands(10, "0,1", "1',0'", "1,0", "0',1'", "0,1'", "1,0'", "0',1", "0,1,0");
        Check.due("pairs of mirror images", z.count(7), 5);
        z.takeAway(0);
        Check.due("without the lowest of a pair", z.count(7), 5);
        z.takeAway(1);
        Check.due("without the pair", z.count(7), 4);
    }

    private static void countStatesAndCharacters() {
        Check.sentence("count: 8 for the states in the history, 9 for the length of the text");
        DollGarlands x = new DollGarlands();
        for (int act = 1; act <= 6; act++) {
            x.setRule(act % 3);
            Check.due("states", x.count(8), Math.min(act, 4));
        }
        for (int left = 3; left >= 0; left--) {
            x.undo();
            Check.due("states", x.count(8), left);
        }
        for (int length = 1; length <= 80; length++) {
            x.type('x');
            Check.due("characters", x.count(9), length);
        }
        x.type('x');
        Check.due("characters", x.count(9), 80);
    }
}
