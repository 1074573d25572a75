/** Terms, GARLANDS: each sentence that names a boundary has a test of its own. */
public final class GarlandsEdgesTest {
    private static final int[] NO_GARLANDS = {8, 9, 1 << 27 | 1, Integer.MIN_VALUE | 1};

    private GarlandsEdgesTest() {
    }

    public static void main(String[] args) {
        eightByCutting();
        eightByReading();
        eightByCuttingApart();
        noGarlandFrom0To7();
        noGarlandBeyond();
        lowestNumberOfCutting();
        lowestNumberOfReading();
        lowestNumberOfCuttingApart();
        lowestNumberOfJoining();
        lowestNumberOfHistory();
        fromOneDoll();
        to32DollsByReading();
        to32DollsByJoining();
        to32DollsByFolding();
        placesOfDolls();
        nowhereDoHandsClash();
        turnedRound();
        foldedOut();
        ownMirrorImage();
        ownMirrorImageButForOneDoll();
        oddIsNeverOwnMirrorImage();
        alikeHandsAreNoMirrorImage();
        Check.finish();
    }

    private static DollGarlands ofOneDoll(int garlands) {
        DollGarlands x = new DollGarlands();
        for (int garland = 0; garland < garlands; garland++) {
            x.cutDoll(0, false);
        }
        return x;
    }

    private static void eightByCutting() {
        Check.sentence("there are 8 garlands at most (cutDoll)");
        DollGarlands x = new DollGarlands();
        for (int garland = 0; garland < 8; garland++) {
            Check.due("one of 8", x.cutDoll(garland % 3, garland % 2 == 1), garland);
            Check.due("count(0)", x.count(0), garland + 1);
        }
        Check.due("a ninth", x.cutDoll(0, false), DollGarlands.FULL);
        Check.garland(x, 0, "0");
        Check.garland(x, 7, "1'");
        x.takeAway(7);
        Check.due("one less than 8", x.cutDoll(2, false), 7);
        Check.due("a ninth", x.cutDoll(0, false), DollGarlands.FULL);
        Check.due("count(0)", x.count(0), 8);
    }

    private static void eightByReading() {
        Check.sentence("there are 8 garlands at most (readGarland)");
        DollGarlands x = ofOneDoll(7);
        Check.due("the eighth", Check.read(x, "0,1"), 7);
        Check.due("a ninth", x.readGarland(), DollGarlands.FULL);
        Check.due("count(0)", x.count(0), 8);
        Check.due("count(1)", x.count(1), 9);
    }

    private static void eightByCuttingApart() {
        Check.sentence("there are 8 garlands at most (cutApart)");
        DollGarlands x = Tables.of("0,1,2");
        for (int garland = 1; garland < 7; garland++) {
            x.cutDoll(0, false);
        }
        Check.due("the eighth", x.cutApart(0, 2), 7);
        Check.due("a ninth", x.cutApart(0, 1), DollGarlands.FULL);
        Check.garland(x, 0, "0,1");
        Check.garland(x, 7, "2");
    }

    /** Asks for a garland that is not there in each call that takes one. */
    private static void isUnknown(DollGarlands x, int there, int garland) {
        String which = "garland " + garland;
        Check.due(which + " joined", x.join(garland, there), DollGarlands.UNKNOWN);
        Check.due(which + " joined behind", x.join(there, garland), DollGarlands.UNKNOWN);
        Check.due(which + " cut apart", x.cutApart(garland, 1), DollGarlands.UNKNOWN);
        Check.due(which + " turned", x.turn(garland), DollGarlands.UNKNOWN);
        Check.due(which + " folded", x.fold(garland), DollGarlands.UNKNOWN);
        Check.due(which + " taken away", x.takeAway(garland), DollGarlands.UNKNOWN);
        for (int what = 0; what <= 7; what++) {
            Check.due(which + " told", x.garland(garland, what), DollGarlands.UNKNOWN);
        }
        for (int what = 0; what <= 3; what++) {
            Check.due(which + ", its doll", x.doll(garland, 0, what), DollGarlands.UNKNOWN);
        }
        Check.due(which + ", a reason", x.reason(garland, there), DollGarlands.UNKNOWN);
        Check.due(which + " behind, a reason", x.reason(there, garland), DollGarlands.UNKNOWN);
        Check.due(which + ", between", x.between(garland, there), DollGarlands.UNKNOWN);
        Check.due(which + " behind, between", x.between(there, garland), DollGarlands.UNKNOWN);
    }

    private static void noGarlandFrom0To7() {
        Check.sentence("garlands are 0 to 7: a number that none has");
        DollGarlands x = ofOneDoll(8);
        x.takeAway(0);
        x.takeAway(5);
        x.takeAway(7);
        isUnknown(x, 1, 0);
        isUnknown(x, 1, 5);
        isUnknown(x, 1, 7);
        Check.due("count(0)", x.count(0), 5);
    }

    private static void noGarlandBeyond() {
        Check.sentence("garlands are 0 to 7: no number beyond");
        DollGarlands x = Tables.of("0,1", "0,1", "0,1", "0,1", "0,1", "0,1", "0,1", "0,1");
        for (int garland : NO_GARLANDS) {
            isUnknown(x, 7, garland);
        }
        DollGarlands y = Tables.of("0,1", "0,1", "0,1", "0,1", "0,1", "0,1", "0,1", "0,1");
        for (int garland : Tables.FAR) {
            isUnknown(y, 0, garland);
        }
        Check.due("count(1)", y.count(1), 16);
    }

    /** Makes eight garlands of the text and takes away those that are not in the set. */
    private static DollGarlands holding(int set, String text) {
        DollGarlands x = Tables.of(text, text, text, text, text, text, text, text);
        for (int garland = 0; garland < 8; garland++) {
            if ((set >> garland & 1) == 0) {
                x.takeAway(garland);
            }
        }
        return x;
    }

    private static int lowestMissing(int set) {
        int lowest = 0;
        while ((set >> lowest & 1) == 1) {
            lowest++;
        }
        return lowest;
    }

    private static void lowestNumberOfCutting() {
        Check.sentence("a new one gets the lowest number that none has (cutDoll)");
        for (int set = 0; set < 255; set++) {
            DollGarlands x = holding(set, "0,1");
            Check.due("beside the set " + set, x.cutDoll(2, true), lowestMissing(set));
            Check.garland(x, lowestMissing(set), "2'");
            Check.due("garlands then", x.count(0), Integer.bitCount(set) + 1);
        }
    }

    private static void lowestNumberOfReading() {
        Check.sentence("a new one gets the lowest number that none has (readGarland)");
        for (int set = 0; set < 255; set++) {
            DollGarlands x = holding(set, "0,1");
            Check.due("beside the set " + set, Check.read(x, "2',0,0"), lowestMissing(set));
            Check.garland(x, lowestMissing(set), "2',0,0");
            Check.due("dolls then", x.count(1), 2 * Integer.bitCount(set) + 3);
        }
    }

    private static void lowestNumberOfCuttingApart() {
        Check.sentence("a new one gets the lowest number that none has (cutApart)");
        for (int set = 1; set < 255; set++) {
            for (int garland = 0; garland < 8; garland++) {
                if ((set >> garland & 1) == 1) {
                    DollGarlands x = holding(set, "0,0,1");
                    Check.due(garland + " of the set " + set, x.cutApart(garland, 1), lowestMissing(set));
                    Check.garland(x, garland, "0");
                    Check.garland(x, lowestMissing(set), "0,1");
                }
            }
        }
    }

    private static void lowestNumberOfJoining() {
        Check.sentence("a new one gets the lowest number that none has: that of one that was joined");
        DollGarlands x = holding(255, "0");
        x.join(0, 5);
        Check.due("the number is free", x.cutDoll(1, false), 5);
        x.join(7, 2);
        x.join(1, 6);
        Check.due("the lower one of two", x.cutDoll(1, false), 2);
        Check.due("the other one", x.cutDoll(1, false), 6);
        Check.due("no more", x.cutDoll(1, false), DollGarlands.FULL);
    }

    private static void lowestNumberOfHistory() {
        Check.sentence("a new one gets the lowest number that none has: of the state that was restored");
        DollGarlands x = Tables.of("0", "1");
        x.keep();
        x.takeAway(0);
        x.undo();
        Check.due("0 is there again", x.cutDoll(1, false), 2);
        x.undo();
        Check.due("2 is not there any more", x.cutDoll(1, false), 2);
        x.takeAway(1);
        x.restore();
        Check.due("1 is there again, 2 is not", x.cutDoll(1, false), 2);
    }

    private static void fromOneDoll() {
        Check.sentence("a garland has 1 doll at least");
        DollGarlands x = new DollGarlands();
        x.cutDoll(1, false);
        Check.due("dolls", x.garland(0, 0), 1);
        Check.due("it can't be cut apart", x.cutApart(0, 1), DollGarlands.BAD_VALUE);
        Check.due("it can't be cut apart ahead of its doll", x.cutApart(0, 0), DollGarlands.BAD_VALUE);
        Check.due("no garland of the empty text", x.readGarland(), -100);
        Check.due("garlands", x.count(0), 1);
    }

    private static void to32DollsByReading() {
        Check.sentence("a garland has 32 dolls at most (readGarland)");
        for (int dolls = 1; dolls <= 32; dolls++) {
            DollGarlands x = Tables.of(Check.many("0", dolls), "1");
            Check.due("dolls", x.garland(0, 0), dolls);
            Check.garland(x, 0, Check.many("0", dolls));
            Check.garland(x, 1, "1");
        }
        DollGarlands x = new DollGarlands();
        Check.due("33 dolls", Check.read(x, Check.many("0", 33)), -163);
        Check.due("no garland", x.count(0), 0);
    }

    private static void to32DollsByJoining() {
        Check.sentence("a garland has 32 dolls at most (join)");
        for (int dolls = 1; dolls <= 32; dolls++) {
            for (int behind = 1; behind <= 32; behind++) {
                joinedUpTo32(dolls, behind);
            }
        }
    }

    private static void joinedUpTo32(int dolls, int behind) {
        String first = Check.many("1", dolls);
        String second = Check.many("0", behind);
        DollGarlands x = Tables.withoutHands(3, first, second, "2");
        boolean fits = dolls + behind <= 32;
        String which = dolls + " and " + behind;
        Check.due(which, x.join(0, 1), fits ? dolls + behind : DollGarlands.FULL);
        Check.garland(x, 0, fits ? first + "," + second : first);
        Check.garland(x, 1, fits ? "-" : second);
        Check.garland(x, 2, "2");
    }

    private static void to32DollsByFolding() {
        Check.sentence("a garland has 32 dolls at most (fold)");
        for (int dolls = 1; dolls <= 32; dolls++) {
            String text = Check.many("1", dolls);
            DollGarlands x = Tables.withoutHands(3, text, "2");
            Check.due(dolls + " folded", x.fold(0), dolls <= 16 ? 2 * dolls : DollGarlands.FULL);
            Check.garland(x, 0, dolls <= 16 ? text + "," + Check.many("1'", dolls) : text);
            Check.garland(x, 1, "2");
        }
    }

    private static void placesOfDolls() {
        Check.sentence("the dolls are at the places 0 and so on");
        for (int dolls : new int[] {1, 2, 31, 32}) {
            String text = dolls == 1 ? "1'" : dolls == 2 ? "1',2" : "1'," + Check.many("0", dolls - 2) + ",2";
            DollGarlands x = Tables.of(text, Check.many("1", 32));
            Check.due("the first of " + dolls, x.doll(0, 0, 0), 1);
            Check.due("the first of " + dolls + ", mirrored", x.doll(0, 0, 1), 1);
            Check.due("the last of " + dolls, x.doll(0, dolls - 1, 0), dolls == 1 ? 1 : 2);
            for (int what = 0; what <= 3; what++) {
                Check.due("behind the last of " + dolls, x.doll(0, dolls, what), DollGarlands.UNKNOWN);
                Check.due("ahead of the first", x.doll(0, -1, what), DollGarlands.UNKNOWN);
                Check.due("ahead of the other's first", x.doll(1, -1, what), DollGarlands.UNKNOWN);
                Check.due("behind the other's last", x.doll(1, 32, what), DollGarlands.UNKNOWN);
            }
            for (int far : Tables.FAR) {
                Check.due("place " + far, x.doll(1, far, 0), DollGarlands.UNKNOWN);
            }
        }
    }

    private static void nowhereDoHandsClash() {
        Check.sentence("nowhere in a garland do hands clash");
        for (int place = 0; place < 31; place++) {
            StringBuilder text = new StringBuilder();
            for (int doll = 0; doll < 32; doll++) {
                // The kind 1 has the right hand 2, which meets the left hand 2 of it mirrored.
                text.append(doll == 0 ? "" : ",").append(doll == place ? "1" : doll == place + 1 ? "1'" : "0");
            }
            DollGarlands x = new DollGarlands();
            Check.due("read, at the place " + place, Check.read(x, text.toString()), DollGarlands.NOT_POSSIBLE);
            x.setRule(2);
            x.setHands(0, 0, 0);
            Check.due("read by the rule 2", x.readGarland(), 0);
            Check.due("the rule put back", x.setRule(0), DollGarlands.NOT_POSSIBLE);
            Check.due("hands set", x.setHands(1, 3, 3), 12);
            Check.due("the rule put back", x.setRule(1), DollGarlands.NOT_POSSIBLE);
            Check.due("hands set", x.setHands(1, 3, 0), 33);
            Check.due("the rule put back without clashes", x.setRule(1), 2);
            Check.due("hands set so that they clash", x.setHands(1, 0, 3), DollGarlands.NOT_POSSIBLE);
        }
    }

    private static int mirrored(String text) {
        return text.replaceAll("[^']", "").length();
    }

    /** Makes a text of that many dolls, of three kinds, some mirrored, so that it is no mirror image of itself. */
    private static String mixed(int dolls) {
        StringBuilder text = new StringBuilder("2");
        for (int i = 1; i < dolls; i++) {
            text.append(',').append(i * i % 3).append(i % 4 == 1 && i < 20 ? "'" : "");
        }
        return text.toString();
    }

    private static void turnedRound() {
        Check.sentence("to turn a garland round is to take its dolls in the opposite order, and to mirror each");
        for (int dolls = 1; dolls <= 32; dolls++) {
            String text = mixed(dolls);
            DollGarlands x = Tables.withoutHands(3, "0,1'", text, "0',1");
            String turned = Tables.turned(text);
            Check.due("turn", x.turn(1), mirrored(turned));
            Check.garland(x, 1, turned);
            Check.due("turned back", x.turn(1), mirrored(text));
            Check.garland(x, 1, text);
            Check.garland(x, 0, "0,1'");
            Check.garland(x, 2, "0',1");
        }
    }

    private static void foldedOut() {
        Check.sentence("to fold a garland out is to put the same garland, turned round, behind it");
        for (int dolls = 1; dolls <= 16; dolls++) {
            String text = mixed(dolls);
            DollGarlands x = Tables.withoutHands(3, "0,1'", text, "0',1");
            Check.due("fold", x.fold(1), 2 * dolls);
            Check.garland(x, 1, text + "," + Tables.turned(text));
            Check.due("it is its own mirror image", x.garland(1, 5), 1);
            Check.garland(x, 0, "0,1'");
            Check.garland(x, 2, "0',1");
        }
    }

    private static void own(DollGarlands x, int garland, boolean own) {
        String text = Check.told(x, garland);
        Check.due("5 of " + text, x.garland(garland, 5), own ? 1 : 0);
        Check.due("count(3) of " + text, x.count(3), own ? 1 : 0);
        Check.due("turn " + text, x.turn(garland), own ? DollGarlands.NONE : mirrored(Tables.turned(text)));
    }

    private static void ownMirrorImage() {
        Check.sentence("a garland is its own mirror image if it is the same turned round, doll by doll");
        for (int dolls = 2; dolls <= 32; dolls += 2) {
            String half = mixed(dolls / 2);
            own(Tables.withoutHands(3, "0", half + "," + Tables.turned(half)), 1, true);
            own(Tables.withoutHands(3, "0", Tables.turned(half) + "," + half), 1, true);
        }
    }

    private static void ownMirrorImageButForOneDoll() {
        Check.sentence("a garland is its own mirror image if each doll is so: one that is not breaks it");
        String half = mixed(16);
        String[] dolls = (half + "," + Tables.turned(half)).split(",");
        for (int place = 0; place < 32; place++) {
            String doll = dolls[place];
            dolls[place] = doll.endsWith("'") ? doll.substring(0, 1) : doll + "'";
            own(Tables.withoutHands(4, "0", String.join(",", dolls)), 1, false);
            dolls[place] = doll.replaceAll("[0-9]", "3");
            own(Tables.withoutHands(4, "0", String.join(",", dolls)), 1, false);
            dolls[place] = doll;
        }
    }

    private static void oddIsNeverOwnMirrorImage() {
        Check.sentence("a garland of an odd number of dolls has one in the middle that is not its own mirror image");
        for (int dolls = 1; dolls <= 31; dolls += 2) {
            String half = dolls == 1 ? "" : mixed(dolls / 2);
            String text = dolls == 1 ? "1" : half + ",1," + Tables.turned(half);
            own(Tables.withoutHands(3, "0", text), 1, false);
            own(Tables.withoutHands(3, "0", text.replace(",1,", ",1',")), 1, false);
        }
    }

    private static void alikeHandsAreNoMirrorImage() {
        Check.sentence("a mirrored doll is another one than that as it was cut, also if both hands are alike");
        DollGarlands x = new DollGarlands();
        x.setHands(0, 4, 4);
        x.setHands(1, 4, 4);
        for (String text : new String[] {"0", "0,0", "0,0,0", "0,1", "0',1'", "0',1',0',1'"}) {
            own(x, Check.read(x, text), false);
        }
        DollGarlands one = new DollGarlands();
        one.setHands(0, 4, 4);
        one.cutDoll(0, false);
        Check.due("0 turned round is another one", one.turn(0), 1);
        Check.garland(one, 0, "0'");
        DollGarlands y = new DollGarlands();
        y.setHands(0, 4, 4);
        Check.read(y, "0,0");
        Check.due("0,0 and 0',0' are mirror images", Check.read(y, "0',0'"), 1);
        Check.due("so they are alike", y.garland(1, 7), 0);
        y.setRule(2);
        Check.due("0',0 is neither", Check.read(y, "0',0"), 2);
        Check.due("0',0 is neither", y.garland(2, 7), 2);
        Check.due("0,0' is neither", Check.read(y, "0,0'"), 3);
        Check.due("0,0' is neither", y.garland(3, 7), 3);
        Check.due("each of them is its own", y.count(3), 2);
    }
}
