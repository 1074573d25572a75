/** Promises 11 to 13: the text, and the garland that is read from it. */
public final class TextsTest {
    private TextsTest() {
    }

    public static void main(String[] args) {
        type();
        clearText();
        faults();
        faultsBehindTheLastDoll();
        readGarland();
        readGarlandErrors();
        Check.finish();
    }

    private static void type() {
        DollGarlands x = new DollGarlands();
        for (int length = 1; length <= 80; length++) {
            Check.due("11: type", x.type(length % 2 == 1 ? '0' : ','), length);
            Check.due("11: count(9)", x.count(9), length);
        }
        Check.due("11: full", x.type('0'), DollGarlands.FULL);
        Check.due("11: full", x.type((char) 65535), DollGarlands.FULL);
        Check.due("11: count(9)", x.count(9), 80);
        Check.due("11: no act", x.count(8), 0);
        // Characters that would be allowed ones if they were cut short to a byte.
        DollGarlands y = new DollGarlands();
        Check.due("11: any character", y.type((char) (256 + '0')), 1);
        Check.due("11: it is no digit", y.readGarland(), -100);
        y.clearText();
        y.type('0');
        Check.due("11: any character", y.type((char) (65280 + ',')), 2);
        Check.due("11: it is no comma", y.readGarland(), -101);
        Check.due("11: any character", y.type((char) 0), 3);
    }

    private static void clearText() {
        DollGarlands x = new DollGarlands();
        Check.due("12: empty", x.clearText(), 0);
        x.type('1');
        x.type('a');
        Check.due("12: clearText()", x.clearText(), 2);
        Check.due("12: count(9)", x.count(9), 0);
        Check.due("12: empty again", x.clearText(), 0);
        Check.due("12: nothing is left", x.readGarland(), -100);
        Check.due("12: anew", x.type('1'), 1);
        Check.due("12: read anew", x.readGarland(), 0);
        Check.due("12: no act", x.count(8), 1);
        x.clearText();
        Check.due("12: the garland stays", x.undo(), 0);
        Check.due("12: undo leaves the text", x.count(9), 0);
    }

    private static void fault(String text, int fault) {
        DollGarlands x = new DollGarlands();
        Check.due("13: \"" + text + "\"", Check.read(x, text), -100 - fault);
        Check.due("13: no garland of \"" + text + "\"", x.count(0), 0);
        Check.due("13: no act of \"" + text + "\"", x.count(8), 0);
        Check.due("13: the text stays", x.count(9), text.length());
    }

    private static void faults() {
        fault("", 0);
        fault(",", 0);
        fault("'", 0);
        fault("a", 0);
        fault("/", 0);
        fault(":", 0);
        fault("-1", 0);
        fault(" 0", 0);
        fault("0 ", 1);
        fault("00", 1);
        fault("0;1", 1);
        fault("0,", 2);
        fault("0,,1", 2);
        fault("0,'", 2);
        fault("0''", 2);
        fault("0'1", 2);
        fault("0',", 3);
        fault("0',1',2,a", 8);
        fault("0',1',2,", 8);
        fault("9,x", 2);
        fault("1,1',", 5);
    }

    private static void faultsBehindTheLastDoll() {
        fault(Check.many("0", 32) + ",", 63);
        fault(Check.many("0", 33), 63);
        fault(Check.many("0", 32) + "0", 63);
        fault(Check.many("0", 32) + "',", 64);
        fault(Check.many("0", 32) + "''", 64);
        fault(Check.many("0", 31) + ",", 62);
        fault(Check.many("0", 40) + ",", 63);
    }

    private static void readGarland() {
        DollGarlands x = new DollGarlands();
        Check.due("13: read", Check.read(x, "0',0,1'"), 0);
        Check.garland(x, 0, "0',0,1'");
        Check.due("13: the text stays", x.count(9), 7);
        Check.due("13: again", x.readGarland(), 1);
        Check.garland(x, 1, "0',0,1'");
        x.takeAway(0);
        Check.due("13: the lowest number", x.readGarland(), 0);
        Check.due("13: states", x.count(8), 4);
        Check.due("13: undo()", x.undo(), 3);
        Check.garland(x, 0, "-");
        Check.due("13: 32 dolls", Check.read(x, Check.many("0", 32)), 0);
        Check.garland(x, 0, Check.many("0", 32));
        Check.due("13: the last one mirrored", Check.read(x, Check.many("0", 31) + ",1'"), 2);
        Check.garland(x, 2, Check.many("0", 31) + ",1'");
        x.setKinds(10);
        Check.due("13: all kinds", Check.read(x, "0,1,2,3,4,5,6,7,8,9'"), 3);
        Check.garland(x, 3, "0,1,2,3,4,5,6,7,8,9'");
    }

    private static void readGarlandErrors() {
        DollGarlands x = new DollGarlands();
        Check.due("13: no kind", Check.read(x, "3"), DollGarlands.UNKNOWN);
        Check.due("13: no kind", Check.read(x, "0,9'"), DollGarlands.UNKNOWN);
        Check.due("13: a fault is first", Check.read(x, "3,"), -102);
        Check.due("13: clash", Check.read(x, "0,1,1'"), DollGarlands.NOT_POSSIBLE);
        Check.due("13: clash in front", Check.read(x, "1,1',0"), DollGarlands.NOT_POSSIBLE);
        Check.due("13: UNKNOWN is before it", Check.read(x, "1,1',0,3"), DollGarlands.UNKNOWN);
        Check.due("13: a fault is before it", Check.read(x, "1,1',0,"), -107);
        Check.due("13: errors are no acts", x.count(8), 0);
        for (int garland = 0; garland < 8; garland++) {
            x.cutDoll(0, false);
        }
        Check.due("13: full", Check.read(x, "0"), DollGarlands.FULL);
        Check.due("13: NOT_POSSIBLE is before FULL", Check.read(x, "1,1'"), DollGarlands.NOT_POSSIBLE);
        Check.due("13: UNKNOWN is before FULL", Check.read(x, "3"), DollGarlands.UNKNOWN);
        Check.due("13: a fault is before FULL", Check.read(x, "0''"), -102);
        x.setRule(1);
        x.takeAway(7);
        Check.due("13: alike by the rule 1", Check.read(x, "0,1"), DollGarlands.NOT_POSSIBLE);
        x.setRule(2);
        Check.due("13: alike by the rule 2", Check.read(x, "0,1"), 7);
        Check.due("13: the error changes nothing", x.count(0), 8);
    }
}
