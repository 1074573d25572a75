/** Promises 17 to 24: what is told. */
public final class ToldTest {
    private static final int[] FAR = {-1, Integer.MIN_VALUE, Integer.MAX_VALUE};

    private ToldTest() {
    }

    public static void main(String[] args) {
        kind();
        garlandEnds();
        garlandMirrorsAndRepeats();
        garlandErrors();
        doll();
        reason();
        between();
        betweenOfThree();
        ways();
        waysErrors();
        longest();
        count();
        countMeetings();
        countDifferent();
        Check.finish();
    }

    private static void kind() {
        DollGarlands x = new DollGarlands();
        Check.read(x, "0',0,1");
        Check.read(x, "1',0,0,1'");
        x.setHands(2, 4, 4);
        int[][] due = {{0, 1, 4, 1, 0}, {1, 2, 3, 2, 0}, {4, 4, 0, 0, 1}};
        for (int kind = 0; kind < 3; kind++) {
            for (int what = 0; what < 5; what++) {
                Check.due("17: kind(" + kind + ", " + what + ")", x.kind(kind, what), due[kind][what]);
            }
        }
        x.setHands(2, 0, 0);
        Check.due("17: no hands are alike too", x.kind(2, 4), 1);
        for (int far : FAR) {
            Check.due("17: kind " + far, x.kind(far, 0), DollGarlands.UNKNOWN);
            Check.due("17: what " + far, x.kind(0, far), DollGarlands.BAD_VALUE);
        }
        Check.due("17: kind 3", x.kind(3, 0), DollGarlands.UNKNOWN);
        Check.due("17: what 5", x.kind(2, 5), DollGarlands.BAD_VALUE);
        Check.due("17: UNKNOWN is first", x.kind(3, 5), DollGarlands.UNKNOWN);
    }

    private static void told(DollGarlands x, int garland, int... due) {
        for (int what = 0; what < due.length; what++) {
            Check.due("18: garland(" + garland + ", " + what + ")", x.garland(garland, what), due[what]);
        }
    }

    private static void garlandEnds() {
        DollGarlands x = new DollGarlands();
        x.setKinds(10);
        Check.read(x, "1");
        Check.read(x, "1'");
        Check.read(x, "2',0,9,2'");
        Check.read(x, "9,8,7,6,5,4,3,2,1,0");
        told(x, 0, 1, 1, 2, 0, 2, 0, 1, 0);
        told(x, 1, 1, 2, 1, 1, 2, 0, 1, 0);
        told(x, 2, 4, 3, 2, 2, 517, 0, 3, 2);
        told(x, 3, 10, 3, 1, 0, 1023, 0, 10, 3);
    }

    private static void garlandMirrorsAndRepeats() {
        DollGarlands x = new DollGarlands();
        x.setHands(0, 0, 0);
        Check.read(x, "0,0,0,0");
        Check.read(x, "0',0,0'");
        Check.read(x, "0,0,0',0'");
        Check.read(x, "0',0,0',0',0");
        Check.read(x, "0',0',0',0'");
        Check.read(x, "0,0',0");
        Check.read(x, "0,0,0',0'");
        Check.read(x, "0',0,0,0");
        told(x, 0, 4, 0, 0, 0, 1, 0, 1, 0);
        told(x, 1, 3, 0, 0, 2, 1, 0, 2, 1);
        told(x, 2, 4, 0, 0, 2, 1, 1, 4, 2);
        told(x, 3, 5, 0, 0, 3, 1, 0, 3, 3);
        told(x, 4, 4, 0, 0, 4, 1, 0, 1, 0);
        told(x, 5, 3, 0, 0, 1, 1, 0, 2, 1);
        told(x, 6, 4, 0, 0, 2, 1, 1, 4, 2);
        told(x, 7, 4, 0, 0, 1, 1, 0, 4, 7);
        Check.due("24: its own mirror image", x.count(3), 2);
        Check.due("24: different ones", x.count(7), 5);
        x.takeAway(0);
        x.takeAway(2);
        Check.due("18: no lower one now", x.garland(4, 7), 4);
        Check.due("18: no lower one now", x.garland(6, 7), 6);
    }

    private static void garlandErrors() {
        DollGarlands x = new DollGarlands();
        Check.read(x, "0");
        for (int far : FAR) {
            Check.due("18: garland " + far, x.garland(far, 0), DollGarlands.UNKNOWN);
            Check.due("18: what " + far, x.garland(0, far), DollGarlands.BAD_VALUE);
        }
        Check.due("18: garland 1", x.garland(1, 0), DollGarlands.UNKNOWN);
        Check.due("18: garland 8", x.garland(8, 0), DollGarlands.UNKNOWN);
        Check.due("18: what 8", x.garland(0, 8), DollGarlands.BAD_VALUE);
        Check.due("18: UNKNOWN is first", x.garland(1, 8), DollGarlands.UNKNOWN);
    }

    private static void doll() {
        DollGarlands x = new DollGarlands();
        Check.read(x, "0,1,2'");
        int[][] due = {{0, 0, 0, 1}, {1, 0, 1, 2}, {2, 1, 3, 2}};
        for (int place = 0; place < 3; place++) {
            for (int what = 0; what < 4; what++) {
                Check.due("19: doll(0, " + place + ", " + what + ")", x.doll(0, place, what), due[place][what]);
            }
        }
        for (int far : FAR) {
            Check.due("19: garland " + far, x.doll(far, 0, 0), DollGarlands.UNKNOWN);
            Check.due("19: place " + far, x.doll(0, far, 0), DollGarlands.UNKNOWN);
            Check.due("19: what " + far, x.doll(0, 0, far), DollGarlands.BAD_VALUE);
        }
        Check.due("19: garland 1", x.doll(1, 0, 0), DollGarlands.UNKNOWN);
        Check.due("19: place 3", x.doll(0, 3, 0), DollGarlands.UNKNOWN);
        Check.due("19: what 4", x.doll(0, 2, 4), DollGarlands.BAD_VALUE);
        Check.due("19: UNKNOWN is first", x.doll(0, 3, 4), DollGarlands.UNKNOWN);
        x.cutApart(0, 2);
        Check.due("19: a place that was", x.doll(0, 2, 0), DollGarlands.UNKNOWN);
    }

    private static void reason() {
        DollGarlands x = new DollGarlands();
        Check.read(x, Check.many("0", 31) + ",1");
        Check.read(x, "1'");
        Check.read(x, "0");
        Check.read(x, Check.many("0", 31));
        Check.due("20: they can", x.reason(1, 2), 0);
        Check.due("20: the same", x.reason(1, 1), 1);
        Check.due("20: the same that is too long", x.reason(0, 0), 1);
        Check.due("20: clash, and too long", x.reason(0, 1), 2);
        Check.due("20: the other way round too long alone", x.reason(1, 0), 3);
        Check.due("20: 33 dolls", x.reason(0, 2), 3);
        Check.due("20: 32 dolls", x.reason(2, 3), 0);
        int[] noGarlands = {-1, 4, 8, Integer.MIN_VALUE, Integer.MAX_VALUE};
        for (int far : noGarlands) {
            Check.due("20: garland " + far, x.reason(far, 0), DollGarlands.UNKNOWN);
            Check.due("20: other " + far, x.reason(0, far), DollGarlands.UNKNOWN);
            Check.due("20: both " + far, x.reason(far, far), DollGarlands.UNKNOWN);
            Check.due("21: garland " + far, x.between(far, 0), DollGarlands.UNKNOWN);
            Check.due("21: other " + far, x.between(0, far), DollGarlands.UNKNOWN);
        }
        Check.due("20: joined", x.join(2, 3), 32);
    }

    private static void between() {
        DollGarlands x = new DollGarlands();
        Check.read(x, "1");
        Check.read(x, "1'");
        Check.read(x, Check.many("0", 31) + ",1");
        Check.due("21: none must", x.between(0, 0), 0);
        Check.due("21: one", x.between(0, 1), 1);
        Check.due("21: 1' and 1 meet with 1", x.between(1, 0), 1);
        Check.due("21: however long", x.between(2, 1), 1);
        Check.due("21: none must, however long", x.between(1, 2), 0);
        Check.due("21: the same once more", x.between(2, 2), 0);
        x.setRule(1);
        Check.due("21: the same once more by the rule 1", x.between(0, 0), 0);
        Check.due("21: one by the rule 1", x.between(0, 1), 1);
        // Kind 0 alone, its hands alike: by the rule 1 nothing ever fits.
        DollGarlands y = new DollGarlands();
        y.setHands(0, 2, 2);
        y.setKinds(1);
        Check.read(y, "0");
        Check.read(y, "0'");
        Check.due("21: none serve", y.between(0, 1), DollGarlands.NONE);
        Check.due("21: none must", y.between(1, 1), 0);
        y.setRule(1);
        Check.due("21: none serve the same once more", y.between(1, 1), DollGarlands.NONE);
        y.setKinds(2);
        y.setHands(1, 2, 0);
        Check.due("21: 1 does not serve", y.between(0, 0), DollGarlands.NONE);
        y.setHands(1, 3, 0);
        Check.due("21: 1 as cut", y.between(0, 0), 1);
        y.setKinds(1);
        Check.due("21: it is no kind now", y.between(0, 0), DollGarlands.NONE);
    }

    /** By the rule 2 only alike hands meet, so that the kinds make steps from hand to hand. */
    private static void betweenOfThree() {
        DollGarlands x = new DollGarlands();
        x.setRule(2);
        x.setKinds(5);
        x.setHands(0, 1, 1);
        x.setHands(1, 5, 5);
        x.setHands(2, 1, 2);
        x.setHands(3, 3, 2);
        x.setHands(4, 4, 3);
        Check.read(x, "0");
        Check.read(x, "1");
        Check.due("21: 4 and 5 are apart", x.between(0, 1), DollGarlands.NONE);
        x.setHands(1, 4, 4);
        Check.due("21: 2, 3', 4'", x.between(0, 1), 3);
        Check.due("21: back", x.between(1, 0), 3);
        Check.due("21: the same once more", x.between(0, 0), 0);
        x.setKinds(6);
        x.setHands(5, 4, 2);
        Check.due("21: 2, 5'", x.between(0, 1), 2);
        x.setHands(5, 0, 1);
        Check.due("21: 5', no hand at its right", x.between(0, 1), 1);
        Check.due("21: 5, no hand at its left", x.between(1, 0), 1);
        // The kinds 0 and 3 alone lead from the hand 1 to the hand 3.
        DollGarlands y = new DollGarlands();
        y.setRule(2);
        y.setKinds(4);
        y.setHands(0, 1, 2);
        y.setHands(1, 1, 1);
        y.setHands(2, 3, 3);
        y.setHands(3, 2, 3);
        Check.read(y, "1");
        Check.read(y, "2");
        Check.due("21: 0, 3", y.between(0, 1), 2);
        Check.due("21: 3', 0'", y.between(1, 0), 2);
        y.setHands(0, 2, 1);
        Check.due("21: 0', 3", y.between(0, 1), 2);
        y.setHands(3, 3, 2);
        Check.due("21: 3, 0", y.between(1, 0), 2);
    }

    private static void ways() {
        DollGarlands x = new DollGarlands();
        int[][] hands = {{0, 1}, {1, 2}, {2, 3}};
        for (int length = 1; length <= 6; length++) {
            for (int what = 0; what <= 2; what++) {
                Check.due("22: ways(" + length + ", " + what + ")", x.ways(length, what), counted(hands, length, what));
            }
        }
        Check.due("22: ways(1, 0)", x.ways(1, 0), 6);
        Check.due("22: ways(2, 0)", x.ways(2, 0), 31);
        Check.due("22: ways(6, 0)", x.ways(6, 0), 21935);
        DollGarlands y = new DollGarlands();
        y.setKinds(10);
        for (int kind = 0; kind < 10; kind++) {
            y.setHands(kind, 0, 0);
        }
        Check.due("22: the most", y.ways(6, 0), 64000000);
        Check.due("22: own mirror images", y.ways(6, 1), 8000);
        Check.due("22: mirror images as one", y.ways(6, 2), 32004000);
        Check.due("22: odd ones are none", y.ways(5, 1), 0);
        Check.due("22: mirror images as one", y.ways(5, 2), 1600000);
        Check.due("22: alike hands are told apart", y.ways(1, 0), 20);
        Check.due("22: mirror images as one", y.ways(1, 2), 10);
        Check.due("22: no act", y.count(8), 4);
    }

    /** Counts by making them all. */
    private static int counted(int[][] hands, int length, int what) {
        int[] dolls = new int[length];
        int most = 2 * hands.length;
        int all = 0;
        int own = 0;
        boolean more = true;
        while (more) {
            if (hangs(hands, dolls)) {
                all++;
                own += isOwn(dolls) ? 1 : 0;
            }
            int place = 0;
            while (place < length && dolls[place] == most - 1) {
                dolls[place++] = 0;
            }
            more = place < length;
            if (more) {
                dolls[place]++;
            }
        }
        return what == 0 ? all : what == 1 ? own : own + (all - own) / 2;
    }

    private static boolean hangs(int[][] hands, int[] dolls) {
        for (int i = 1; i < dolls.length; i++) {
            int right = hands[dolls[i - 1] / 2][1 - dolls[i - 1] % 2];
            int left = hands[dolls[i] / 2][dolls[i] % 2];
            if (right != 0 && right == left && dolls[i - 1] % 2 != dolls[i] % 2) {
                return false;
            }
        }
        return true;
    }

    private static boolean isOwn(int[] dolls) {
        for (int i = 0; i < dolls.length; i++) {
            if (dolls[i] != (dolls[dolls.length - 1 - i] ^ 1)) {
                return false;
            }
        }
        return true;
    }

    private static void waysErrors() {
        DollGarlands x = new DollGarlands();
        for (int far : FAR) {
            Check.due("22: length " + far, x.ways(far, 0), DollGarlands.BAD_VALUE);
            Check.due("22: what " + far, x.ways(1, far), DollGarlands.BAD_VALUE);
        }
        Check.due("22: length 0", x.ways(0, 0), DollGarlands.BAD_VALUE);
        Check.due("22: length 7", x.ways(7, 0), DollGarlands.BAD_VALUE);
        Check.due("22: what 3", x.ways(6, 3), DollGarlands.BAD_VALUE);
    }

    private static void longest() {
        DollGarlands x = new DollGarlands();
        Check.due("23: without garlands", x.longest(), DollGarlands.NONE);
        Check.read(x, "1");
        Check.due("23: one", x.longest(), 0);
        Check.read(x, "0,0,1");
        Check.read(x, "0,0");
        Check.read(x, "1,1,1");
        Check.due("23: the lowest of two", x.longest(), 1);
        Check.read(x, "0,0,0,0");
        Check.due("23: the longest", x.longest(), 4);
        x.takeAway(4);
        x.takeAway(1);
        Check.due("23: the other one", x.longest(), 3);
    }

    private static void count() {
        DollGarlands x = new DollGarlands();
        Check.read(x, "0',0,1,1");
        Check.read(x, "1',1'");
        Check.read(x, "0',0");
        Check.read(x, "1,1");
        x.takeAway(3);
        x.setKinds(7);
        x.cutDoll(6, true);
        int[] due = {4, 9, 5, 1, 0, 7, 3, 4, 4, 3};
        for (int what = 0; what < due.length; what++) {
            Check.due("24: count(" + what + ")", x.count(what), due[what]);
        }
        for (int far : FAR) {
            Check.due("24: count(" + far + ")", x.count(far), DollGarlands.BAD_VALUE);
        }
        Check.due("24: count(10)", x.count(10), DollGarlands.BAD_VALUE);
    }

    private static void countMeetings() {
        DollGarlands x = new DollGarlands();
        Check.read(x, "0,0");
        Check.due("24: a hand and none", x.count(6), 0);
        Check.read(x, "0',0'");
        Check.due("24: none and a hand", x.count(6), 0);
        Check.read(x, "0',0");
        Check.due("24: none and none", x.count(6), 0);
        Check.due("24: the third is its own mirror image", x.count(3), 1);
        Check.read(x, "0,1,2,1");
        Check.due("24: three times both", x.count(6), 3);
        x.setHands(2, 0, 0);
        Check.due("24: once both", x.count(6), 1);
        x.takeAway(3);
        Check.read(x, "2,1,1,2,1,1");
        Check.due("24: twice both", x.count(6), 2);
        x.takeAway(0);
        Check.read(x, "0',0");
        Check.due("24: the first and the third", x.count(3), 2);
    }

    private static void countDifferent() {
        DollGarlands x = new DollGarlands();
        Check.read(x, "0,1");
        Check.read(x, "1',0'");
        Check.read(x, "0,1");
        Check.read(x, "1,0'");
        Check.read(x, "0");
        Check.read(x, "0'");
        Check.due("24: different ones", x.count(7), 3);
        Check.due("18: the mirror image of 0", x.garland(1, 7), 0);
        Check.due("18: the same as 0", x.garland(2, 7), 0);
        Check.due("18: in the opposite order alone", x.garland(3, 7), 3);
        x.takeAway(0);
        Check.due("18: the mirror image of 1", x.garland(2, 7), 1);
        Check.due("24: different ones", x.count(7), 3);
    }
}
