import java.util.ArrayList;
import java.util.List;

/** Terms, TEXTS: each sentence that names a boundary has a test of its own. */
public final class TextsEdgesTest {
    private TextsEdgesTest() {
    }

    public static void main(String[] args) {
        emptyAtFirst();
        at80Characters();
        at80CharactersAnew();
        oneDoll();
        thirtyTwoDolls();
        thirtyTwoDollsIn80Characters();
        behindTheThirtySecondDoll();
        behindTheThirtySecondDollAtTheLastCharacter();
        characterAtTheStart();
        characterBehindADigit();
        characterBehindAMirroredDoll();
        characterBehindAComma();
        firstFaultOfSeveral();
        faultAtEachIndex();
        textThatEndsAtEachIndex();
        longestTextThatEndsTooEarly();
        emptyTextEndsTooEarly();
        Check.finish();
    }

    private static void emptyAtFirst() {
        Check.sentence("the text is empty at first");
        DollGarlands x = new DollGarlands();
        Check.due("count(9)", x.count(9), 0);
        Check.due("clearText()", x.clearText(), 0);
        Check.due("type", x.type('0'), 1);
    }

    private static void at80Characters() {
        Check.sentence("a text of at most 80 characters");
        DollGarlands x = new DollGarlands();
        for (int length = 1; length <= 79; length++) {
            Check.due("type", x.type(length % 3 == 0 ? ',' : length % 3 == 2 ? '\'' : '1'), length);
        }
        Check.due("one less than full", x.count(9), 79);
        Check.due("the eightieth", x.type('1'), 80);
        Check.due("the eighty-first", x.type(','), DollGarlands.FULL);
        Check.due("the eighty-first once more", x.type('\''), DollGarlands.FULL);
        Check.due("the length stays", x.count(9), 80);
        Check.due("read as without it", x.readGarland(), -179);
        Check.due("clearText()", x.clearText(), 80);
    }

    private static void at80CharactersAnew() {
        Check.sentence("a text of at most 80 characters, also after one that was full");
        DollGarlands x = new DollGarlands();
        for (int round = 0; round < 3; round++) {
            for (int length = 1; length <= 80; length++) {
                Check.due("type", x.type('2'), length);
            }
            Check.due("full", x.type('2'), DollGarlands.FULL);
            Check.due("clearText()", x.clearText(), 80);
            Check.due("empty", x.count(9), 0);
        }
        Check.due("one doll is left of it", Check.read(x, "2"), 0);
        Check.garland(x, 0, "2");
    }

    private static void oneDoll() {
        Check.sentence("a garland is a text: one doll or more");
        for (int kind = 0; kind <= 9; kind++) {
            DollGarlands x = Tables.withKinds(10);
            Check.due("as cut", Check.read(x, "" + kind), 0);
            Check.due("mirrored", Check.read(x, kind + "'"), 1);
            Check.garland(x, 0, "" + kind);
            Check.garland(x, 1, kind + "'");
        }
    }

    private static void thirtyTwoDolls() {
        Check.sentence("a garland is a text: 32 dolls at most");
        DollGarlands x = new DollGarlands();
        Check.due("31 dolls", Check.read(x, Check.many("0", 31)), 0);
        Check.due("32 dolls", Check.read(x, Check.many("0", 32)), 1);
        Check.due("33 dolls", Check.read(x, Check.many("0", 33)), -163);
        Check.due("dolls in 0", x.garland(0, 0), 31);
        Check.due("dolls in 1", x.garland(1, 0), 32);
    }

    private static void thirtyTwoDollsIn80Characters() {
        Check.sentence("a garland is a text: 32 dolls, 17 of them mirrored, have 80 characters");
        String text = Check.many("0", 15) + "," + Check.many("1'", 17);
        Check.due("its characters", text.length(), 80);
        DollGarlands x = Tables.withoutHands(3);
        Check.due("read", Check.read(x, text), 0);
        Check.garland(x, 0, text);
        Check.due("mirrored", x.garland(0, 3), 17);
    }

    private static void fault(String text, int index) {
        DollGarlands x = Tables.withoutHands(10);
        Check.due("fault of " + text, Check.read(x, text), -100 - index);
        Check.due("no garland of " + text, x.count(0), 0);
    }

    private static void behindTheThirtySecondDoll() {
        Check.sentence("behind the thirty-second doll no \",\" is");
        for (int mirrored = 0; mirrored <= 16; mirrored++) {
            String text = mirrored == 0 ? Check.many("0", 32)
                : Check.many("1'", mirrored) + "," + Check.many("0", 32 - mirrored);
            fault(text + ",", text.length());
            fault(text + "1", text.length());
            DollGarlands x = Tables.withoutHands(10);
            Check.due("a ' may be", Check.read(x, text + "'"), 0);
            Check.garland(x, 0, text + "'");
        }
        fault(Check.many("0", 32) + "',", 64);
        fault(Check.many("0", 32) + "',1", 64);
        fault(Check.many("0", 31) + ",", 62);
        fault(Check.many("0", 31) + "',", 63);
    }

    private static void behindTheThirtySecondDollAtTheLastCharacter() {
        Check.sentence("behind the thirty-second doll no \",\" is: it is the eightieth character");
        String text = Check.many("0", 16) + "," + Check.many("1'", 16);
        Check.due("its characters", text.length(), 79);
        fault(text + ",", 79);
        fault(text + "'", 79);
    }

    /** Reads the text with each character behind it; those of the second text may stand there. */
    private static void characterBehind(String text, String allowed) {
        DollGarlands x = null;
        for (int character = 0; character <= 65535; character++) {
            if (character % 40 == 0) {
                x = Tables.withKinds(10);
            }
            int garland = Check.read(x, text + (char) character);
            boolean fits = allowed.indexOf(character) >= 0;
            if (!fits) {
                Check.due(text + "(char) " + character, garland, -100 - text.length());
            } else if (character == ',') {
                Check.due(text + ",", garland, -101 - text.length());
            } else {
                Check.due(text + (char) character, garland, 0);
                x.takeAway(0);
            }
        }
    }

    private static void characterAtTheStart() {
        Check.sentence("a doll is a digit, its kind (0 to 9)");
        characterBehind("", "0123456789");
    }

    private static void characterBehindADigit() {
        Check.sentence("a doll is a digit, and perhaps \"'\" if it is mirrored");
        characterBehind("0", "',");
        characterBehind("0,9", "',");
    }

    private static void characterBehindAMirroredDoll() {
        Check.sentence("a doll is mirrored once");
        characterBehind("0'", ",");
        characterBehind("0,9'", ",");
    }

    private static void characterBehindAComma() {
        Check.sentence("\",\" is between two dolls");
        characterBehind("0,", "0123456789");
        characterBehind("0',", "0123456789");
    }

    private static void firstFaultOfSeveral() {
        Check.sentence("the fault is the index of the first character that is not allowed at its place");
        fault("xx", 0);
        fault(",x", 0);
        fault("0xx", 1);
        fault("0x,", 1);
        fault("0'',,", 2);
        fault("0,,''", 2);
        fault("0,1''2,", 4);
        // The end that comes too early is behind the character that is not allowed.
        fault("00,", 1);
        fault(Check.many("0", 32) + ",,", 63);
        fault("0''," + Check.many("0", 32) + ",", 2);
        fault("0," + Check.many("0", 32) + ",", 63);
    }

    /** Makes texts of 80 characters, each of other steps. */
    private static List<String> longTexts() {
        List<String> texts = new ArrayList<>();
        texts.add(Check.many("1'", 27));
        texts.add(Check.many("0", 15) + "," + Check.many("1'", 17));
        texts.add(Check.many("0,1',2'", 10) + ",");
        return texts;
    }

    private static void faultAtEachIndex() {
        Check.sentence("the fault is an index from 0: each index of a long text");
        for (String text : longTexts()) {
            for (int index = 0; index < text.length(); index++) {
                fault(text.substring(0, index) + "x" + text.substring(index + 1), index);
            }
        }
    }

    private static void textThatEndsAtEachIndex() {
        Check.sentence("the fault is the length of the text if it ends too early");
        for (String text : longTexts()) {
            for (int length = 1; length <= text.length(); length++) {
                String part = text.substring(0, length);
                if (part.endsWith(",")) {
                    fault(part, length);
                } else {
                    DollGarlands x = Tables.withoutHands(10);
                    Check.due(part, Check.read(x, part), 0);
                    Check.garland(x, 0, part);
                }
            }
        }
    }

    private static void longestTextThatEndsTooEarly() {
        Check.sentence("the fault is the length of the text if it ends too early: 80 characters");
        String text = Check.many("1'", 26) + ",0,";
        Check.due("its characters", text.length(), 80);
        fault(text, 80);
        text = Check.many("1'", 25) + ",0,0,";
        Check.due("its characters", text.length(), 79);
        fault(text, 79);
    }

    private static void emptyTextEndsTooEarly() {
        Check.sentence("the empty text ends too early");
        DollGarlands x = Tables.of("0");
        x.clearText();
        Check.due("empty", x.readGarland(), -100);
        Check.due("no garland", x.count(0), 1);
        Check.due("empty at first", new DollGarlands().readGarland(), -100);
    }
}
