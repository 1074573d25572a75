import java.util.ArrayList;
import java.util.List;
import java.util.function.ToIntFunction;

/** Terms, HISTORY: each sentence that names a boundary has a test of its own. */
public final class HistoryEdgesTest {
    private HistoryEdgesTest() {
    }

    public static void main(String[] args) {
        emptyAtFirst();
        oneLessThanFull();
        justFull();
        oneMoreThanFull();
        manyMoreThanFull();
        undoneAndActedAnew();
        undoneToItsEndFromEachLength();
        eachActRecords();
        eachActRecordsWhereItsFull();
        eachActKeepsTheStateBeforeIt();
        actThatChangesNothingRecords();
        undoIsNoAct();
        keepIsNoAct();
        textsAreNoActs();
        questionsAreNoActs();
        noSnapshotAtFirst();
        oneSnapshot();
        snapshotStays();
        snapshotRestoredAfterOtherActs();
        snapshotRestoredAndUndone();
        snapshotRestoredWhereHistoryIsFull();
        snapshotIsNotUndone();
        snapshotIsNoLiveTable();
        largestStateUndone();
        largestStateRestored();
        stateHoldsHandsThatAreOfNoKind();
        stateHoldsNoText();
        stateHoldsNoHistory();
        stateHoldsNoSnapshot();
        Check.finish();
    }

    /** Makes the kind 0's hands as told by a number, so that each state can be told from the others. */
    private static void mark(DollGarlands x, int number) {
        Check.holds("the act " + number, x.setHands(0, number / 6 % 6, number % 6) >= 0);
    }

    private static int marked(DollGarlands x) {
        return 6 * x.kind(0, 0) + x.kind(0, 1);
    }

    private static DollGarlands withMarks(int marks) {
        DollGarlands x = new DollGarlands();
        for (int number = 2; number < 2 + marks; number++) {
            mark(x, number);
        }
        return x;
    }

    private static void undoneTo(DollGarlands x, int... marks) {
        Check.due("states", x.count(8), marks.length);
        for (int i = 0; i < marks.length; i++) {
            Check.due("undo()", x.undo(), marks.length - 1 - i);
            Check.due("states left", x.count(8), marks.length - 1 - i);
            Check.due("the state", marked(x), marks[i]);
        }
        int last = marked(x);
        Check.due("undo() at its end", x.undo(), DollGarlands.NONE);
        Check.due("undo() at its end once more", x.undo(), DollGarlands.NONE);
        Check.due("states at its end", x.count(8), 0);
        Check.due("the state at its end", marked(x), last);
    }

    private static void emptyAtFirst() {
        Check.sentence("the history is empty at first");
        undoneTo(new DollGarlands());
    }

    private static void oneLessThanFull() {
        Check.sentence("a history of at most 4 states: three");
        undoneTo(withMarks(3), 3, 2, 1);
    }

    private static void justFull() {
        Check.sentence("a history of at most 4 states: four");
        undoneTo(withMarks(4), 4, 3, 2, 1);
    }

    private static void oneMoreThanFull() {
        Check.sentence("when one more is recorded, the oldest one is dropped");
        undoneTo(withMarks(5), 5, 4, 3, 2);
    }

    private static void manyMoreThanFull() {
        Check.sentence("when more are recorded, the oldest ones are dropped");
        for (int marks = 6; marks <= 30; marks++) {
            undoneTo(withMarks(marks), marks, marks - 1, marks - 2, marks - 3);
        }
    }

    private static void undoneAndActedAnew() {
        Check.sentence("undo() removes the latest one: it is not there after other acts");
        for (int marks = 4; marks <= 9; marks++) {
            DollGarlands x = withMarks(marks);
            x.undo();
            x.undo();
            mark(x, 33);
            undoneTo(x, marks - 1, marks - 2, marks - 3);
            DollGarlands y = withMarks(marks);
            y.undo();
            mark(y, 33);
            mark(y, 34);
            mark(y, 35);
            undoneTo(y, 34, 33, marks, marks - 1);
        }
    }

    private static void undoneToItsEndFromEachLength() {
        Check.sentence("undo() removes and restores the latest one, to the end of the history, and acts follow");
        for (int marks = 1; marks <= 9; marks++) {
            DollGarlands x = withMarks(marks);
            for (int i = 0; i < 5; i++) {
                x.undo();
            }
            int first = marked(x);
            Check.due("the state at its end", first, Math.max(1, marks - 3));
            for (int number = 20; number < 25; number++) {
                mark(x, number);
            }
            undoneTo(x, 23, 22, 21, 20);
        }
    }

    /** The acts, in an order in which each can be done behind the others. */
    private static List<ToIntFunction<DollGarlands>> acts() {
        List<ToIntFunction<DollGarlands>> acts = new ArrayList<>();
        acts.add(x -> x.readGarland());
        acts.add(x -> x.cutDoll(1, true));
        acts.add(x -> x.turn(1));
        acts.add(x -> x.cutApart(0, 1));
        acts.add(x -> x.join(2, 0));
        acts.add(x -> x.setHands(1, 1, 0));
        acts.add(x -> x.fold(1));
        acts.add(x -> x.setRule(1));
        acts.add(x -> x.setKinds(9));
        acts.add(x -> x.takeAway(2));
        acts.add(x -> x.restore());
        return acts;
    }

    private static DollGarlands toActOn() {
        DollGarlands x = new DollGarlands();
        x.keep();
        for (char character : "0,0,2'".toCharArray()) {
            x.type(character);
        }
        return x;
    }

    private static void eachActRecords() {
        Check.sentence("each call of a method that is described as an act records a state");
        DollGarlands x = toActOn();
        for (ToIntFunction<DollGarlands> act : acts()) {
            int states = x.count(8);
            Check.holds("an act is done", act.applyAsInt(x) >= 0);
            Check.due("states", x.count(8), Math.min(4, states + 1));
        }
    }

    private static DollGarlands behind(int acts) {
        DollGarlands x = toActOn();
        for (ToIntFunction<DollGarlands> act : acts().subList(0, acts)) {
            act.applyAsInt(x);
        }
        return x;
    }

    private static void eachActRecordsWhereItsFull() {
        Check.sentence("each act records a state, and drops the oldest one where there are 4");
        for (int acts = 5; acts <= acts().size(); acts++) {
            DollGarlands x = behind(acts);
            for (int left = 3; left >= 0; left--) {
                Check.due("undo()", x.undo(), left);
                String before = Tables.state(behind(acts - 4 + left));
                Check.same("the state behind " + (acts - 4 + left) + " acts", Tables.state(x), before);
            }
            Check.due("undo() at its end", x.undo(), DollGarlands.NONE);
            Check.same("the state at its end", Tables.state(x), Tables.state(behind(acts - 4)));
        }
    }

    private static void eachActKeepsTheStateBeforeIt() {
        Check.sentence("each act records the state that was before it");
        List<ToIntFunction<DollGarlands>> acts = acts();
        for (int last = 0; last < acts.size(); last++) {
            DollGarlands x = behind(last);
            String before = Tables.state(x);
            acts.get(last).applyAsInt(x);
            Check.holds("the act " + last + " changes the state", !Tables.state(x).equals(before));
            Check.due("undo()", x.undo(), Math.min(3, last));
            Check.same("the state ahead of the act " + last, Tables.state(x), before);
        }
    }

    private static void actThatChangesNothingRecords() {
        Check.sentence("each act that returns no error and not NONE records: also if all is as it was");
        DollGarlands x = withMarks(1);
        x.keep();
        Check.due("restore()", x.restore(), 0);
        Check.due("restore()", x.restore(), 0);
        undoneTo(x, 2, 2, 1);
    }

    private static void undoIsNoAct() {
        Check.sentence("undo() is no act");
        DollGarlands x = withMarks(4);
        Check.due("undo()", x.undo(), 3);
        Check.due("undo() does not bring back what it undid", x.undo(), 2);
        Check.due("the state", marked(x), 3);
        undoneTo(x, 2, 1);
    }

    private static void keepIsNoAct() {
        Check.sentence("keep() is no act");
        DollGarlands x = withMarks(5);
        x.keep();
        x.keep();
        undoneTo(x, 5, 4, 3, 2);
        x.keep();
        undoneTo(x);
    }

    private static void textsAreNoActs() {
        Check.sentence("type() and clearText() are no acts");
        DollGarlands x = withMarks(5);
        x.type('0');
        x.clearText();
        x.type('1');
        undoneTo(x, 5, 4, 3, 2);
    }

    private static void questionsAreNoActs() {
        Check.sentence("what is told is no act");
        DollGarlands x = Tables.of("0,1", "1'", "2");
        mark(x, 2);
        mark(x, 3);
        for (int what = 0; what <= 9; what++) {
            x.kind(1, what);
            x.garland(1, what);
            x.doll(0, 1, what);
            x.ways(1 + what % 6, what % 3);
            x.count(what);
        }
        x.reason(0, 1);
        x.between(0, 1);
        x.longest();
        undoneTo(x, 2, 1, 1, 1);
    }

    private static void noSnapshotAtFirst() {
        Check.sentence("one snapshot, empty at first");
        DollGarlands x = withMarks(2);
        Check.due("restore()", x.restore(), DollGarlands.NONE);
        Check.due("the state", marked(x), 3);
        undoneTo(x, 2, 1);
        Check.due("restore()", x.restore(), DollGarlands.NONE);
    }

    private static void oneSnapshot() {
        Check.sentence("there is one snapshot: a later one is in its place");
        DollGarlands x = withMarks(1);
        Check.due("keep()", x.keep(), 0);
        x.cutDoll(1, false);
        mark(x, 3);
        Check.due("keep()", x.keep(), 1);
        x.takeAway(0);
        mark(x, 4);
        Check.due("restore()", x.restore(), 1);
        Check.due("the state", marked(x), 3);
        Check.due("restore() once more", x.restore(), 1);
        Check.due("the state", marked(x), 3);
        Check.garland(x, 0, "1");
    }

    private static void snapshotStays() {
        Check.sentence("restore() restores the state of the snapshot, which stays");
        DollGarlands x = Tables.of("0,1,2'");
        x.keep();
        String kept = Tables.state(x);
        for (int round = 0; round < 8; round++) {
            mark(x, 20 + round);
            x.takeAway(0);
            Check.due("restore()", x.restore(), 1);
            Check.same("the state", Tables.state(x), kept);
        }
    }

    private static void snapshotRestoredAfterOtherActs() {
        Check.sentence("a snapshot is restored after other acts");
        List<ToIntFunction<DollGarlands>> acts = acts();
        for (int done = 0; done < acts.size(); done++) {
            DollGarlands x = behind(done);
            String kept = Tables.state(x);
            int garlands = x.keep();
            Check.due("keep()", garlands, x.count(0));
            for (int i = done; i < acts.size() - 1; i++) {
                acts.get(i).applyAsInt(x);
            }
            Check.due("restore()", x.restore(), garlands);
            Check.same("the state kept after " + done + " acts", Tables.state(x), kept);
        }
    }

    private static void snapshotRestoredAndUndone() {
        Check.sentence("a snapshot that was restored after other acts is undone");
        DollGarlands x = Tables.of("0,1");
        x.keep();
        x.takeAway(0);
        mark(x, 30);
        x.cutDoll(2, true);
        String before = Tables.state(x);
        Check.due("restore()", x.restore(), 1);
        Check.garland(x, 0, "0,1");
        Check.due("undo()", x.undo(), 3);
        Check.same("the state ahead of it", Tables.state(x), before);
        Check.due("undo()", x.undo(), 2);
        Check.garland(x, 0, "-");
        Check.due("restored once more", x.restore(), 1);
        Check.garland(x, 0, "0,1");
        Check.due("states", x.count(8), 3);
    }

    private static void snapshotRestoredWhereHistoryIsFull() {
        Check.sentence("restore() is an act: the oldest of 4 states is dropped for it");
        DollGarlands x = new DollGarlands();
        x.keep();
        for (int number = 2; number < 6; number++) {
            mark(x, number);
        }
        Check.due("restore()", x.restore(), 0);
        Check.due("the state", marked(x), 1);
        undoneTo(x, 5, 4, 3, 2);
    }

    private static void snapshotIsNotUndone() {
        Check.sentence("undo() leaves the snapshot");
        DollGarlands x = withMarks(3);
        x.keep();
        undoneTo(x, 3, 2, 1);
        Check.due("restore()", x.restore(), 0);
        Check.due("the state", marked(x), 4);
        undoneTo(x, 1);
    }

    private static void snapshotIsNoLiveTable() {
        Check.sentence("a snapshot and a history hold the state as it was, whatever is done then");
        DollGarlands x = Tables.of("0,0,1", "2");
        x.keep();
        String kept = Tables.state(x);
        x.turn(0);
        x.cutApart(0, 1);
        x.restore();
        x.turn(0);
        x.turn(1);
        Check.due("undo()", x.undo(), 3);
        Check.due("undo()", x.undo(), 2);
        Check.same("the state that was restored", Tables.state(x), kept);
        x.setKinds(4);
        x.takeAway(0);
        Check.due("restore()", x.restore(), 2);
        Check.same("the state that was restored once more", Tables.state(x), kept);
    }

    /** Makes 8 garlands of 32 dolls by folding, as typing all would take more calls than an object has. */
    private static DollGarlands full() {
        DollGarlands x = Tables.withoutHands(10);
        x.setRule(2);
        for (int garland = 0; garland < 8; garland++) {
            Check.due("reading", Check.read(x, quarter(garland)), garland);
            x.fold(garland);
            x.fold(garland);
        }
        return x;
    }

    private static String quarter(int garland) {
        return "9,8',0,0',1,7," + garland + "," + (garland + 1) + "'";
    }

    private static String whole(int garland) {
        String half = quarter(garland) + "," + Tables.turned(quarter(garland));
        return half + "," + Tables.turned(half);
    }

    private static void largestStateUndone() {
        Check.sentence("a state is everything: eight garlands of 32 dolls, undone");
        for (int garland = 0; garland < 8; garland++) {
            DollGarlands x = full();
            Check.garland(x, garland, whole(garland));
            Check.due("takeAway(" + garland + ")", x.takeAway(garland), 32);
            Check.due("another one in its place", Check.read(x, Check.many("5", 32)), garland);
            Check.due("undo()", x.undo(), 3);
            Check.due("undo()", x.undo(), 2);
            Check.garland(x, garland, whole(garland));
            Check.due("all dolls", x.count(1), 256);
        }
    }

    private static void largestStateRestored() {
        Check.sentence("a state is everything: settings, hands of ten kinds, eight garlands of 32 dolls, restored");
        for (int garland = 0; garland < 8; garland++) {
            DollGarlands x = full();
            Check.due("keep()", x.keep(), 8);
            for (int each = 0; each < 8; each++) {
                Check.due("takeAway(" + each + ")", x.takeAway(each), 32);
            }
            Check.due("other ones in their places", Check.read(x, Check.many("0", 32)), 0);
            for (int each = 1; each < 8; each++) {
                Check.due("other ones in their places", x.readGarland(), each);
            }
            x.setRule(0);
            x.setHands(9, 5, 5);
            x.setKinds(1);
            Check.due("restore()", x.restore(), 8);
            Check.garland(x, garland, whole(garland));
            Check.due("the rule", x.count(4), 2);
            Check.due("the kinds", x.count(5), 10);
            Check.due("hands of 9", 10 * x.kind(9, 0) + x.kind(9, 1), 0);
            Check.due("undo()", x.undo(), 3);
            Check.garland(x, garland, Check.many("0", 32));
        }
    }

    private static void stateHoldsHandsThatAreOfNoKind() {
        Check.sentence("a state is everything: also the hands that are of no kind for some time");
        DollGarlands x = Tables.withKinds(10);
        x.setHands(9, 1, 1);
        x.setKinds(1);
        x.keep();
        x.setKinds(10);
        x.setHands(9, 2, 2);
        Check.due("restore()", x.restore(), 0);
        Check.due("kinds", x.count(5), 1);
        x.setKinds(10);
        Check.due("hands of 9", 10 * x.kind(9, 0) + x.kind(9, 1), 11);
        x.undo();
        x.undo();
        Check.due("hands of 9 ahead of restore()", 10 * x.kind(9, 0) + x.kind(9, 1), 22);
    }

    private static void stateHoldsNoText() {
        Check.sentence("a state is everything but the text");
        DollGarlands x = Tables.of("0,1");
        x.keep();
        x.clearText();
        x.type('2');
        x.type('\'');
        Check.due("restore()", x.restore(), 1);
        Check.due("characters", x.count(9), 2);
        Check.due("undo()", x.undo(), 1);
        Check.due("undo()", x.undo(), 0);
        Check.due("characters", x.count(9), 2);
        Check.due("readGarland()", x.readGarland(), 0);
        Check.garland(x, 0, "2'");
    }

    private static void stateHoldsNoHistory() {
        Check.sentence("a state is everything but the history");
        DollGarlands x = new DollGarlands();
        x.keep();
        for (int number = 2; number < 5; number++) {
            mark(x, number);
        }
        x.restore();
        undoneTo(x, 4, 3, 2, 1);
        DollGarlands y = withMarks(4);
        y.keep();
        undoneTo(y, 4, 3, 2, 1);
        y.restore();
        undoneTo(y, 1);
    }

    private static void stateHoldsNoSnapshot() {
        Check.sentence("a state is everything but the snapshot");
        DollGarlands x = new DollGarlands();
        mark(x, 2);
        x.keep();
        mark(x, 3);
        x.keep();
        mark(x, 4);
        undoneTo(x, 3, 2, 1);
        x.restore();
        Check.due("the state", marked(x), 3);
        DollGarlands y = new DollGarlands();
        mark(y, 2);
        y.keep();
        Check.due("undo()", y.undo(), 0);
        Check.due("a snapshot kept behind the undone act stays", y.restore(), 0);
        Check.due("the state", marked(y), 2);
    }
}
