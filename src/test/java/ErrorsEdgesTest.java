import java.util.ArrayList;
import java.util.List;
import java.util.function.Function;
import java.util.function.Supplier;
import java.util.function.ToIntFunction;

/**
 * Terms, ERRORS: where several errors can apply, the order of the checks, a test for each two of each call;
 * and each call that is refused changes nothing.
 */
public final class ErrorsEdgesTest {
    private static final int UNKNOWN = DollGarlands.UNKNOWN;
    private static final int BAD_VALUE = DollGarlands.BAD_VALUE;
    private static final int FULL = DollGarlands.FULL;
    private static final int NOT_POSSIBLE = DollGarlands.NOT_POSSIBLE;
    private static final int NONE = DollGarlands.NONE;
    private static final int LEAST = Integer.MIN_VALUE;
    private static final int MOST = Integer.MAX_VALUE;

    private ErrorsEdgesTest() {
    }

    public static void main(String[] args) {
        orderOfActsOnKinds();
        orderOfCutDoll();
        orderOfJoin();
        orderOfCutApart();
        orderOfTurnAndFold();
        orderOfReadGarlandsFault();
        orderOfReadGarland();
        orderOfWhatIsTold();
        orderOfWays();
        noneOnlyWithoutErrors();
        refusedActsOnKinds();
        refusedActsOnGarlands();
        refusedJoinAndFold();
        refusedActsOnAFullTable();
        refusedTexts();
        refusedReadGarland();
        refusedHistory();
        refusedQuestions();
        questions();
        Check.finish();
    }

    private static void ahead(String first, String second, String call, int got, int due) {
        Check.sentence("the order of the @return line: " + first + " ahead of " + second);
        Check.due(call, got, due);
    }

    /** Makes a table of garlands that can't be joined, or folded, or turned, each for a reason of its own. */
    private static DollGarlands some() {
        DollGarlands x = new DollGarlands();
        x.cutDoll(2, true);
        x.keep();
        x.takeAway(0);
        Check.read(x, "0,1");
        Check.read(x, "1',0");
        Check.read(x, "0',0");
        Check.read(x, Check.many("0'", 17));
        Check.read(x, Check.many("0", 16));
        Check.read(x, Check.many("0", 16) + ",1");
        return x;
    }

    private static DollGarlands full() {
        DollGarlands x = some();
        x.cutDoll(2, false);
        x.cutDoll(2, true);
        return x;
    }

    private static void orderOfActsOnKinds() {
        ahead("UNKNOWN", "BAD_VALUE", "setHands(3, 6, 0)", some().setHands(3, 6, 0), UNKNOWN);
        ahead("UNKNOWN", "BAD_VALUE", "setHands(-1, 0, -1)", some().setHands(-1, 0, -1), UNKNOWN);
        ahead("UNKNOWN", "BAD_VALUE", "setHands(most, least, most)", some().setHands(MOST, LEAST, MOST), UNKNOWN);
        // The hand that is in range would clash: 1', 0 with the left hand 1 of both.
        ahead("BAD_VALUE", "NOT_POSSIBLE", "setHands(0, 1, 6)", some().setHands(0, 1, 6), BAD_VALUE);
        ahead("BAD_VALUE", "NOT_POSSIBLE", "setHands(0, 1, -1)", some().setHands(0, 1, -1), BAD_VALUE);
        ahead("BAD_VALUE", "NOT_POSSIBLE", "setHands(1, 6, 1)", some().setHands(1, 6, 1), BAD_VALUE);
        ahead("BAD_VALUE", "NONE", "setHands(0, 0, 6)", some().setHands(0, 0, 6), BAD_VALUE);
        ahead("BAD_VALUE", "NONE", "setHands(0, -1, 1)", some().setHands(0, -1, 1), BAD_VALUE);
        ahead("BAD_VALUE", "NOT_POSSIBLE", "setRule(3)", some().setRule(3), BAD_VALUE);
        ahead("BAD_VALUE", "NOT_POSSIBLE", "setKinds(0)", some().setKinds(0), BAD_VALUE);
        ahead("BAD_VALUE", "NOT_POSSIBLE", "setKinds(least)", some().setKinds(LEAST), BAD_VALUE);
        ahead("BAD_VALUE", "NOT_POSSIBLE", "setKinds(11)", some().setKinds(11), BAD_VALUE);
    }

    private static void orderOfCutDoll() {
        ahead("UNKNOWN", "FULL", "cutDoll(3, true)", full().cutDoll(3, true), UNKNOWN);
        ahead("UNKNOWN", "FULL", "cutDoll(-1, false)", full().cutDoll(-1, false), UNKNOWN);
        ahead("UNKNOWN", "FULL", "cutDoll(least, false)", full().cutDoll(LEAST, false), UNKNOWN);
    }

    private static void orderOfJoin() {
        ahead("UNKNOWN", "BAD_VALUE", "join(6, 6)", some().join(6, 6), UNKNOWN);
        ahead("UNKNOWN", "BAD_VALUE", "join(8, 8)", full().join(8, 8), UNKNOWN);
        ahead("UNKNOWN", "BAD_VALUE", "join(-1, -1)", full().join(-1, -1), UNKNOWN);
        ahead("UNKNOWN", "BAD_VALUE", "join(least, least)", full().join(LEAST, LEAST), UNKNOWN);
        ahead("BAD_VALUE", "NOT_POSSIBLE", "join of one with itself", withClashingEnds().join(0, 0), BAD_VALUE);
        ahead("BAD_VALUE", "FULL", "join(3, 3), of 34 dolls", some().join(3, 3), BAD_VALUE);
        ahead("NOT_POSSIBLE", "FULL", "join(5, 3)", clashingAndLong().join(0, 1), NOT_POSSIBLE);
    }

    /** Makes one garland whose ends would clash if they met: 1 at the left and, mirrored, at the right. */
    private static DollGarlands withClashingEnds() {
        DollGarlands x = Tables.of("1,0,0,1'");
        Check.due("its hand at the left", x.garland(0, 1), 1);
        Check.due("its hand at the right", x.garland(0, 2), 1);
        return x;
    }

    private static DollGarlands clashingAndLong() {
        return Tables.of(Check.many("0", 16) + ",1", "1'," + Check.many("0", 15));
    }

    private static void orderOfCutApart() {
        ahead("UNKNOWN", "BAD_VALUE", "cutApart(6, 0)", some().cutApart(6, 0), UNKNOWN);
        ahead("UNKNOWN", "BAD_VALUE", "cutApart(-1, least)", some().cutApart(-1, LEAST), UNKNOWN);
        ahead("UNKNOWN", "FULL", "cutApart(8, 1)", full().cutApart(8, 1), UNKNOWN);
        ahead("UNKNOWN", "FULL", "cutApart(-1, 1)", full().cutApart(-1, 1), UNKNOWN);
        ahead("BAD_VALUE", "FULL", "cutApart(0, 0)", full().cutApart(0, 0), BAD_VALUE);
        ahead("BAD_VALUE", "FULL", "cutApart(0, 2)", full().cutApart(0, 2), BAD_VALUE);
        ahead("BAD_VALUE", "FULL", "cutApart(7, 1)", full().cutApart(7, 1), BAD_VALUE);
        Check.due("FULL at last", full().cutApart(0, 1), FULL);
    }

    private static void orderOfTurnAndFold() {
        ahead("UNKNOWN", "NONE", "turn(6)", some().turn(6), UNKNOWN);
        ahead("UNKNOWN", "NONE", "turn(8)", full().turn(8), UNKNOWN);
        ahead("UNKNOWN", "NOT_POSSIBLE", "fold(6)", some().fold(6), UNKNOWN);
        ahead("UNKNOWN", "FULL", "fold(-1)", full().fold(-1), UNKNOWN);
        ahead("NOT_POSSIBLE", "FULL", "fold(5), of 34 dolls", some().fold(5), NOT_POSSIBLE);
        Check.due("FULL at last", some().fold(3), FULL);
    }

    private static void orderOfReadGarlandsFault() {
        ahead("the fault", "UNKNOWN", "3,", Check.read(some(), "3,"), -102);
        ahead("the fault", "NOT_POSSIBLE", "1,1',", Check.read(some(), "1,1',"), -105);
        ahead("the fault", "FULL", "0,", Check.read(full(), "0,"), -102);
        ahead("the fault", "FULL", "the empty text", emptied(full()).readGarland(), -100);
        ahead("the fault", "UNKNOWN, NOT_POSSIBLE and FULL", "9,1,1',x", Check.read(full(), "9,1,1',x"), -107);
    }

    private static DollGarlands emptied(DollGarlands x) {
        x.clearText();
        return x;
    }

    private static void orderOfReadGarland() {
        ahead("UNKNOWN", "NOT_POSSIBLE", "1,1',3", Check.read(some(), "1,1',3"), UNKNOWN);
        ahead("UNKNOWN", "NOT_POSSIBLE", "3,1,1'", Check.read(some(), "3,1,1'"), UNKNOWN);
        ahead("UNKNOWN", "FULL", "3", Check.read(full(), "3"), UNKNOWN);
        ahead("UNKNOWN", "FULL", "0,9'", Check.read(full(), "0,9'"), UNKNOWN);
        ahead("NOT_POSSIBLE", "FULL", "1,1'", Check.read(full(), "1,1'"), NOT_POSSIBLE);
        Check.due("FULL at last", Check.read(full(), "1,1"), FULL);
    }

    private static void orderOfWhatIsTold() {
        for (int what : new int[] {-1, 5, 8, LEAST, MOST}) {
            ahead("UNKNOWN", "BAD_VALUE", "kind(3, " + what + ")", some().kind(3, what), UNKNOWN);
            ahead("UNKNOWN", "BAD_VALUE", "kind(-1, " + what + ")", some().kind(-1, what), UNKNOWN);
            ahead("UNKNOWN", "BAD_VALUE", "garland(6, " + what + ")", some().garland(6, what), UNKNOWN);
            ahead("UNKNOWN", "BAD_VALUE", "garland(8, " + what + ")", full().garland(8, what), UNKNOWN);
            ahead("UNKNOWN", "BAD_VALUE", "doll(6, 0, " + what + ")", some().doll(6, 0, what), UNKNOWN);
            ahead("UNKNOWN", "BAD_VALUE", "doll(0, 2, " + what + ")", some().doll(0, 2, what), UNKNOWN);
            ahead("UNKNOWN", "BAD_VALUE", "doll(0, -1, " + what + ")", some().doll(0, -1, what), UNKNOWN);
        }
        ahead("UNKNOWN", "1, the same one", "reason(6, 6)", some().reason(6, 6), UNKNOWN);
        ahead("UNKNOWN", "1, the same one", "reason(8, 8)", full().reason(8, 8), UNKNOWN);
        ahead("1, the same one", "2, clash", "reason(0, 0)", withClashingEnds().reason(0, 0), 1);
        ahead("1, the same one", "3, too long", "reason(3, 3)", some().reason(3, 3), 1);
        ahead("2, clash", "3, too long", "reason(0, 1)", clashingAndLong().reason(0, 1), 2);
        ahead("UNKNOWN", "NONE", "between(6, 6)", some().between(6, 6), UNKNOWN);
    }

    private static void orderOfWays() {
        Check.sentence("ways: BAD_VALUE (length or what)");
        Check.due("ways(0, 3)", some().ways(0, 3), BAD_VALUE);
        Check.due("ways(7, -1)", some().ways(7, -1), BAD_VALUE);
        Check.due("ways(0, 0)", some().ways(0, 0), BAD_VALUE);
        Check.due("ways(6, 3)", some().ways(6, 3), BAD_VALUE);
    }

    private static void noneOnlyWithoutErrors() {
        Check.sentence("NONE is returned only if no error applies");
        Check.due("setRule(0)", some().setRule(0), NONE);
        Check.due("setRule(-5)", some().setRule(-5), BAD_VALUE);
        Check.due("setKinds(3)", some().setKinds(3), NONE);
        Check.due("setHands(2, 2, 3)", some().setHands(2, 2, 3), NONE);
        Check.due("turn(2)", some().turn(2), NONE);
        Check.due("turn(6)", some().turn(6), UNKNOWN);
        Check.due("longest()", new DollGarlands().longest(), NONE);
    }

    /** All that can be told of an object afterwards; each teller spends an object of its own. */
    private static List<Function<DollGarlands, String>> tellers() {
        List<Function<DollGarlands, String>> tellers = new ArrayList<>();
        for (int times = 0; times <= 5; times++) {
            int undone = times;
            tellers.add(x -> Tables.undone(x, undone));
        }
        tellers.add(Tables::snapshot);
        tellers.add(Tables::handsOfAll);
        tellers.add(Tables::text);
        tellers.add(x -> "restore() undone " + x.restore() + Tables.undone(x, 1));
        return tellers;
    }

    /** Compares an object on which the call was made with its twin on which it wasn't. */
    private static void unchanged(String call, Supplier<DollGarlands> made, ToIntFunction<DollGarlands> called, int due) {
        for (Function<DollGarlands, String> teller : tellers()) {
            DollGarlands x = made.get();
            Check.due(call, called.applyAsInt(x), due);
            Check.same("all behind " + call, teller.apply(x), teller.apply(made.get()));
        }
        DollGarlands x = made.get();
        Check.due(call, called.applyAsInt(x), due);
        Check.due(call + " once more", called.applyAsInt(x), due);
    }

    private static final String NOTHING = "a call that returns an error or NONE changes nothing: ";

    private static void refusedActsOnKinds() {
        Check.sentence(NOTHING + "setHands, setRule, setKinds");
        for (int far : new int[] {-1, 6, LEAST, MOST}) {
            unchanged("setHands(" + far + ", 1, 1)", ErrorsEdgesTest::some, x -> x.setHands(far, 1, 1), UNKNOWN);
            unchanged("setHands(2, " + far + ", 1)", ErrorsEdgesTest::some, x -> x.setHands(2, far, 1), BAD_VALUE);
            unchanged("setHands(2, 1, " + far + ")", ErrorsEdgesTest::some, x -> x.setHands(2, 1, far), BAD_VALUE);
            unchanged("setRule(" + far + ")", ErrorsEdgesTest::some, x -> x.setRule(far), BAD_VALUE);
        }
        unchanged("setHands(3, 1, 1)", ErrorsEdgesTest::some, x -> x.setHands(3, 1, 1), UNKNOWN);
        unchanged("setHands(0, 1, 1)", ErrorsEdgesTest::some, x -> x.setHands(0, 1, 1), NOT_POSSIBLE);
        unchanged("setHands(0, 1, 5)", ErrorsEdgesTest::some, x -> x.setHands(0, 1, 5), NOT_POSSIBLE);
        unchanged("setHands(0, 0, 1)", ErrorsEdgesTest::some, x -> x.setHands(0, 0, 1), NONE);
        unchanged("setRule(3)", ErrorsEdgesTest::some, x -> x.setRule(3), BAD_VALUE);
        unchanged("setRule(1)", ErrorsEdgesTest::some, x -> x.setRule(1), NOT_POSSIBLE);
        unchanged("setRule(0)", ErrorsEdgesTest::some, x -> x.setRule(0), NONE);
        for (int far : new int[] {-1, 0, 11, LEAST, MOST}) {
            unchanged("setKinds(" + far + ")", ErrorsEdgesTest::some, x -> x.setKinds(far), BAD_VALUE);
        }
        unchanged("setKinds(1)", ErrorsEdgesTest::some, x -> x.setKinds(1), NOT_POSSIBLE);
        unchanged("setKinds(3)", ErrorsEdgesTest::some, x -> x.setKinds(3), NONE);
    }

    private static void refusedActsOnGarlands() {
        Check.sentence(NOTHING + "cutDoll, cutApart, turn, takeAway");
        for (int far : new int[] {-1, 6, 8, LEAST, MOST}) {
            unchanged("cutDoll(" + far + ", true)", ErrorsEdgesTest::some, x -> x.cutDoll(far, true), UNKNOWN);
            unchanged("cutApart(" + far + ", 1)", ErrorsEdgesTest::some, x -> x.cutApart(far, 1), UNKNOWN);
            unchanged("turn(" + far + ")", ErrorsEdgesTest::some, x -> x.turn(far), UNKNOWN);
            unchanged("takeAway(" + far + ")", ErrorsEdgesTest::some, x -> x.takeAway(far), UNKNOWN);
        }
        for (int place : new int[] {-1, 0, 2, LEAST, MOST}) {
            unchanged("cutApart(0, " + place + ")", ErrorsEdgesTest::some, x -> x.cutApart(0, place), BAD_VALUE);
        }
        unchanged("turn(2)", ErrorsEdgesTest::some, x -> x.turn(2), NONE);
    }

    private static void refusedJoinAndFold() {
        Check.sentence(NOTHING + "join, fold");
        for (int far : new int[] {-1, 6, 8, LEAST, MOST}) {
            unchanged("join(" + far + ", 0)", ErrorsEdgesTest::some, x -> x.join(far, 0), UNKNOWN);
            unchanged("join(0, " + far + ")", ErrorsEdgesTest::some, x -> x.join(0, far), UNKNOWN);
            unchanged("fold(" + far + ")", ErrorsEdgesTest::some, x -> x.fold(far), UNKNOWN);
        }
        unchanged("join(2, 2)", ErrorsEdgesTest::some, x -> x.join(2, 2), BAD_VALUE);
        unchanged("join(0, 1)", ErrorsEdgesTest::some, x -> x.join(0, 1), NOT_POSSIBLE);
        unchanged("join(3, 4)", ErrorsEdgesTest::some, x -> x.join(3, 4), FULL);
        unchanged("fold(0)", ErrorsEdgesTest::some, x -> x.fold(0), NOT_POSSIBLE);
        unchanged("fold(5)", ErrorsEdgesTest::some, x -> x.fold(5), NOT_POSSIBLE);
        unchanged("fold(3)", ErrorsEdgesTest::some, x -> x.fold(3), FULL);
    }

    private static void refusedActsOnAFullTable() {
        Check.sentence(NOTHING + "cutDoll, cutApart and readGarland where there are 8 garlands");
        unchanged("cutDoll(0, true)", ErrorsEdgesTest::full, x -> x.cutDoll(0, true), FULL);
        unchanged("cutDoll(3, true)", ErrorsEdgesTest::full, x -> x.cutDoll(3, true), UNKNOWN);
        unchanged("cutApart(0, 1)", ErrorsEdgesTest::full, x -> x.cutApart(0, 1), FULL);
        unchanged("cutApart(3, 16)", ErrorsEdgesTest::full, x -> x.cutApart(3, 16), FULL);
        unchanged("readGarland()", ErrorsEdgesTest::full, x -> x.readGarland(), FULL);
    }

    /** Makes a table with this text, its history full and another state in the snapshot. */
    private static Supplier<DollGarlands> typed(String text) {
        return () -> {
            DollGarlands x = Tables.of("0,1", "2'", "1");
            x.keep();
            x.turn(0);
            x.cutDoll(0, true);
            x.clearText();
            for (char character : text.toCharArray()) {
                x.type(character);
            }
            return x;
        };
    }

    private static void refusedTexts() {
        Check.sentence(NOTHING + "type where there are 80 characters");
        String garland = Check.many("1'", 27);
        for (char character : new char[] {'0', ',', '\'', (char) 0, (char) 65535}) {
            unchanged("type((char) " + (int) character + ")", typed(garland), x -> x.type(character), FULL);
        }
    }

    private static void refusedReadGarland() {
        Check.sentence(NOTHING + "readGarland");
        unchanged("reading the empty text", typed(""), x -> x.readGarland(), -100);
        unchanged("reading 0,", typed("0,"), x -> x.readGarland(), -102);
        unchanged("reading 0''", typed("0''"), x -> x.readGarland(), -102);
        unchanged("reading 1,3", typed("1,3"), x -> x.readGarland(), UNKNOWN);
        unchanged("reading 0,1,1'", typed("0,1,1'"), x -> x.readGarland(), NOT_POSSIBLE);
        unchanged("reading 33 dolls", typed(Check.many("0", 33)), x -> x.readGarland(), -163);
    }

    private static void refusedHistory() {
        Check.sentence(NOTHING + "undo, restore");
        unchanged("undo()", DollGarlands::new, x -> x.undo(), NONE);
        unchanged("restore()", DollGarlands::new, x -> x.restore(), NONE);
        unchanged("undo() at its end", ErrorsEdgesTest::undoneToItsEnd, x -> x.undo(), NONE);
        unchanged("restore() without a snapshot", () -> Tables.of("0", "1", "2", "0,1"), x -> x.restore(), NONE);
    }

    private static DollGarlands undoneToItsEnd() {
        DollGarlands x = full();
        for (int i = 0; i < 4; i++) {
            x.undo();
        }
        return x;
    }

    private static void refusedQuestions() {
        Check.sentence(NOTHING + "what is told");
        for (int far : new int[] {-1, 6, LEAST, MOST}) {
            unchanged("kind(" + far + ", 0)", ErrorsEdgesTest::some, x -> x.kind(far, 0), UNKNOWN);
            unchanged("garland(" + far + ", 0)", ErrorsEdgesTest::some, x -> x.garland(far, 0), UNKNOWN);
            unchanged("doll(" + far + ", 0, 0)", ErrorsEdgesTest::some, x -> x.doll(far, 0, 0), UNKNOWN);
            unchanged("doll(0, " + far + ", 0)", ErrorsEdgesTest::some, x -> x.doll(0, far, 0), UNKNOWN);
            unchanged("reason(" + far + ", 0)", ErrorsEdgesTest::some, x -> x.reason(far, 0), UNKNOWN);
            unchanged("between(0, " + far + ")", ErrorsEdgesTest::some, x -> x.between(0, far), UNKNOWN);
        }
        unchanged("kind(0, 5)", ErrorsEdgesTest::some, x -> x.kind(0, 5), BAD_VALUE);
        unchanged("garland(0, 8)", ErrorsEdgesTest::some, x -> x.garland(0, 8), BAD_VALUE);
        unchanged("doll(0, 0, 4)", ErrorsEdgesTest::some, x -> x.doll(0, 0, 4), BAD_VALUE);
        unchanged("ways(7, 0)", ErrorsEdgesTest::some, x -> x.ways(7, 0), BAD_VALUE);
        unchanged("ways(6, 3)", ErrorsEdgesTest::some, x -> x.ways(6, 3), BAD_VALUE);
        unchanged("count(10)", ErrorsEdgesTest::some, x -> x.count(10), BAD_VALUE);
        unchanged("longest()", DollGarlands::new, x -> x.longest(), NONE);
        unchanged("between that none serve", ErrorsEdgesTest::noneServe, x -> x.between(0, 1), NONE);
    }

    private static DollGarlands noneServe() {
        DollGarlands x = new DollGarlands();
        x.setHands(0, 2, 2);
        x.setKinds(1);
        x.cutDoll(0, false);
        x.cutDoll(0, true);
        return x;
    }

    private static void questions() {
        Check.sentence("what is told changes nothing");
        for (int what = 0; what <= 9; what++) {
            int each = what;
            unchanged("count(" + what + ")", ErrorsEdgesTest::some, x -> x.count(each), some().count(what));
            unchanged("garland(3, " + what % 8 + ")", ErrorsEdgesTest::some, x -> x.garland(3, each % 8),
                some().garland(3, what % 8));
            unchanged("kind(1, " + what % 5 + ")", ErrorsEdgesTest::some, x -> x.kind(1, each % 5), some().kind(1, what % 5));
            unchanged("doll(1, 1, " + what % 4 + ")", ErrorsEdgesTest::some, x -> x.doll(1, 1, each % 4),
                some().doll(1, 1, what % 4));
            unchanged("ways(6, " + what % 3 + ")", ErrorsEdgesTest::some, x -> x.ways(6, each % 3), some().ways(6, what % 3));
        }
        unchanged("reason(0, 1)", ErrorsEdgesTest::some, x -> x.reason(0, 1), 2);
        unchanged("between(0, 1)", ErrorsEdgesTest::some, x -> x.between(0, 1), 1);
        unchanged("longest()", ErrorsEdgesTest::some, x -> x.longest(), 3);
    }
}
