/**
 * Garlands of paper dolls, cut so that hands that clash never meet.
 *
 * What each call answers is told by ../shared/DOC.md. All rows are made with the object and used
 * again, so that a call makes no objects; a doll is held as twice its kind, and one more if it
 * hangs mirrored, so that its mirror image differs from it by the last bit alone.
 */
public final class DollGarlands {
    public static final int UNKNOWN = -1;
    public static final int BAD_VALUE = -2;
    public static final int FULL = -3;
    public static final int NOT_POSSIBLE = -4;
    public static final int NONE = -5;

    private static final int MOST_KINDS = 10;
    private static final int MOST_GARLANDS = 8;
    private static final int MOST_DOLLS = 32;
    private static final int MOST_CHARACTERS = 80;
    private static final int MOST_STATES = 4;
    private static final int HANDS = 6;
    private static final int RULES = 3;
    private static final int FIRST_KINDS = 3;
    private static final int LONGEST_COUNTED = 6;
    private static final int DOLLS_TO_CUT = 2 * MOST_KINDS;
    private static final int AHEAD_OF_FAULT = -100;
    private static final int NO_FAULT = -1;
    private static final int NO_NUMBER = -1;

    private final Table table;
    private final Looks looks;
    private final Chains chains;
    private final History history;
    private final Text text;
    private final Row snapshot;
    private final Row bench;
    private boolean hasSnapshot;

    public DollGarlands() {
        table = new Table();
        looks = new Looks(table);
        chains = new Chains(table);
        history = new History();
        text = new Text();
        snapshot = new Row(Table.SIZE);
        bench = new Row(MOST_DOLLS);
        hasSnapshot = false;
    }

    // ---- kinds, rules

    public int setHands(int kind, int left, int right) {
        if (!table.hasKind(kind)) {
            return UNKNOWN;
        }
        if (!isBelow(left, HANDS) || !isBelow(right, HANDS)) {
            return BAD_VALUE;
        }
        int oldLeft = table.leftHand(kind);
        int oldRight = table.rightHand(kind);
        // The new hands are tried on and taken off again: the history wants the state before them.
        table.putHands(kind, left, right);
        boolean clash = table.hasClash();
        table.putHands(kind, oldLeft, oldRight);
        if (clash) {
            return NOT_POSSIBLE;
        }
        if (left == oldLeft && right == oldRight) {
            return NONE;
        }
        history.remember(table);
        table.putHands(kind, left, right);
        return 10 * oldLeft + oldRight;
    }

    public int setRule(int rule) {
        if (!isBelow(rule, RULES)) {
            return BAD_VALUE;
        }
        int oldRule = table.ruleNow();
        // Tried and taken back, as in setHands.
        table.putRule(rule);
        boolean clash = table.hasClash();
        table.putRule(oldRule);
        if (clash) {
            return NOT_POSSIBLE;
        }
        if (rule == oldRule) {
            return NONE;
        }
        history.remember(table);
        table.putRule(rule);
        return oldRule;
    }

    public int setKinds(int kinds) {
        if (kinds < 1 || kinds > MOST_KINDS) {
            return BAD_VALUE;
        }
        if (looks.highestKind() >= kinds) {
            return NOT_POSSIBLE;
        }
        int oldKinds = table.kindsNow();
        if (kinds == oldKinds) {
            return NONE;
        }
        history.remember(table);
        table.putKinds(kinds);
        return oldKinds;
    }

    // ---- garlands

    public int cutDoll(int kind, boolean mirrored) {
        if (!table.hasKind(kind)) {
            return UNKNOWN;
        }
        int fresh = table.freeNumber();
        if (fresh == NO_NUMBER) {
            return FULL;
        }
        history.remember(table);
        table.putDoll(fresh, 0, dollOf(kind, mirrored));
        table.putLength(fresh, 1);
        return fresh;
    }

    public int join(int garland, int other) {
        if (!table.hasGarland(garland) || !table.hasGarland(other)) {
            return UNKNOWN;
        }
        if (garland == other) {
            return BAD_VALUE;
        }
        if (table.clash(table.lastDoll(garland), table.firstDoll(other))) {
            return NOT_POSSIBLE;
        }
        int length = table.lengthOf(garland);
        int joined = length + table.lengthOf(other);
        if (joined > MOST_DOLLS) {
            return FULL;
        }
        history.remember(table);
        table.copyDolls(other, 0, garland, length, joined - length);
        table.putLength(garland, joined);
        table.putLength(other, 0);
        return joined;
    }

    public int cutApart(int garland, int place) {
        if (!table.hasGarland(garland)) {
            return UNKNOWN;
        }
        int length = table.lengthOf(garland);
        if (place < 1 || place >= length) {
            return BAD_VALUE;
        }
        int fresh = table.freeNumber();
        if (fresh == NO_NUMBER) {
            return FULL;
        }
        history.remember(table);
        table.copyDolls(garland, place, fresh, 0, length - place);
        table.putLength(fresh, length - place);
        table.putLength(garland, place);
        return fresh;
    }

    public int turn(int garland) {
        if (!table.hasGarland(garland)) {
            return UNKNOWN;
        }
        if (looks.isOwnMirror(garland)) {
            return NONE;
        }
        history.remember(table);
        table.turnRound(garland);
        return looks.mirroredIn(garland);
    }

    public int fold(int garland) {
        if (!table.hasGarland(garland)) {
            return UNKNOWN;
        }
        int last = table.lastDoll(garland);
        if (table.clash(last, mirrorOf(last))) {
            return NOT_POSSIBLE;
        }
        int folded = 2 * table.lengthOf(garland);
        if (folded > MOST_DOLLS) {
            return FULL;
        }
        history.remember(table);
        table.foldOut(garland);
        return folded;
    }

    public int takeAway(int garland) {
        if (!table.hasGarland(garland)) {
            return UNKNOWN;
        }
        int length = table.lengthOf(garland);
        history.remember(table);
        table.putLength(garland, 0);
        return length;
    }

    // ---- texts

    public int type(char character) {
        if (text.isFull()) {
            return FULL;
        }
        return text.add(character);
    }

    public int clearText() {
        return text.empty();
    }

    public int readGarland() {
        int fault = text.fault();
        if (fault != NO_FAULT) {
            return AHEAD_OF_FAULT - fault;
        }
        int length = text.spellDolls(bench);
        if (!table.hasKindsOf(bench, length)) {
            return UNKNOWN;
        }
        if (table.hasClashIn(bench, 0, length)) {
            return NOT_POSSIBLE;
        }
        int fresh = table.freeNumber();
        if (fresh == NO_NUMBER) {
            return FULL;
        }
        history.remember(table);
        table.hangUp(fresh, bench, length);
        return fresh;
    }

    // ---- history

    public int undo() {
        if (history.size() == 0) {
            return NONE;
        }
        history.goBack(table);
        return history.size();
    }

    public int keep() {
        table.saveTo(snapshot, 0);
        hasSnapshot = true;
        return looks.garlands();
    }

    public int restore() {
        if (!hasSnapshot) {
            return NONE;
        }
        history.remember(table);
        table.loadFrom(snapshot, 0);
        return looks.garlands();
    }

    // ---- what is told

    public int kind(int kind, int what) {
        if (!table.hasKind(kind)) {
            return UNKNOWN;
        }
        switch (what) {
            case 0:
                return table.leftHand(kind);
            case 1:
                return table.rightHand(kind);
            case 2:
                return looks.dollsLike(dollOf(kind, false)) + looks.dollsLike(dollOf(kind, true));
            case 3:
                return looks.dollsLike(dollOf(kind, true));
            case 4:
                return oneIf(table.leftHand(kind) == table.rightHand(kind));
            default:
                return BAD_VALUE;
        }
    }

    public int garland(int garland, int what) {
        if (!table.hasGarland(garland)) {
            return UNKNOWN;
        }
        switch (what) {
            case 0:
                return table.lengthOf(garland);
            case 1:
                return table.leftOf(table.firstDoll(garland));
            case 2:
                return table.rightOf(table.lastDoll(garland));
            case 3:
                return looks.mirroredIn(garland);
            case 4:
                return looks.kindsIn(garland);
            case 5:
                return oneIf(looks.isOwnMirror(garland));
            case 6:
                return looks.repeatOf(garland);
            case 7:
                return looks.lowestAlike(garland);
            default:
                return BAD_VALUE;
        }
    }

    public int doll(int garland, int place, int what) {
        if (!table.hasGarland(garland) || !isBelow(place, table.lengthOf(garland))) {
            return UNKNOWN;
        }
        int doll = table.dollAt(garland, place);
        switch (what) {
            case 0:
                return kindOf(doll);
            case 1:
                return oneIf(isMirrored(doll));
            case 2:
                return table.leftOf(doll);
            case 3:
                return table.rightOf(doll);
            default:
                return BAD_VALUE;
        }
    }

    public int reason(int garland, int other) {
        if (!table.hasGarland(garland) || !table.hasGarland(other)) {
            return UNKNOWN;
        }
        if (garland == other) {
            return 1;
        }
        if (table.clash(table.lastDoll(garland), table.firstDoll(other))) {
            return 2;
        }
        return table.lengthOf(garland) + table.lengthOf(other) > MOST_DOLLS ? 3 : 0;
    }

    public int between(int garland, int other) {
        if (!table.hasGarland(garland) || !table.hasGarland(other)) {
            return UNKNOWN;
        }
        return chains.fewestBetween(table.lastDoll(garland), table.firstDoll(other));
    }

    public int ways(int length, int what) {
        if (length < 1 || length > LONGEST_COUNTED) {
            return BAD_VALUE;
        }
        switch (what) {
            case 0:
                return chains.garlandsOf(length);
            case 1:
                return chains.ownMirrorsOf(length);
            case 2:
                // Each garland that is not its own mirror image has just one other beside it.
                return (chains.garlandsOf(length) + chains.ownMirrorsOf(length)) / 2;
            default:
                return BAD_VALUE;
        }
    }

    public int longest() {
        int longest = NONE;
        int most = 0;
        for (int garland = 0; garland < MOST_GARLANDS; garland++) {
            if (table.lengthOf(garland) > most) {
                most = table.lengthOf(garland);
                longest = garland;
            }
        }
        return longest;
    }

    public int count(int what) {
        switch (what) {
            case 0:
                return looks.garlands();
            case 1:
                return looks.dolls();
            case 2:
                return looks.mirroredDolls();
            case 3:
                return looks.ownMirrors();
            case 4:
                return table.ruleNow();
            case 5:
                return table.kindsNow();
            case 6:
                return looks.handsThatMeet();
            case 7:
                return looks.differentGarlands();
            case 8:
                return history.size();
            case 9:
                return text.size();
            default:
                return BAD_VALUE;
        }
    }

    // ---- numbers and dolls

    private static boolean isBelow(int value, int bound) {
        return value >= 0 && value < bound;
    }

    private static int oneIf(boolean holds) {
        return holds ? 1 : 0;
    }

    private static int dollOf(int kind, boolean mirrored) {
        return 2 * kind + oneIf(mirrored);
    }

    private static int kindOf(int doll) {
        return doll >> 1;
    }

    private static boolean isMirrored(int doll) {
        return (doll & 1) == 1;
    }

    private static int mirrorOf(int doll) {
        return doll ^ 1;
    }

    /** A row of numbers whose every index is looked at here, so that no other place needs to. */
    private static final class Row {
        private final int[] cells;

        Row(int size) {
            cells = new int[size > 0 ? size : 0];
        }

        int at(int index) {
            return index >= 0 && index < cells.length ? cells[index] : 0;
        }

        void put(int index, int value) {
            if (index >= 0 && index < cells.length) {
                cells[index] = value;
            }
        }

        void copyFrom(Row other, int from, int to, int length) {
            if (other == null || length < 0 || from < 0 || to < 0) {
                return;
            }
            if (from <= other.cells.length - length && to <= cells.length - length) {
                System.arraycopy(other.cells, from, cells, to, length);
            }
        }
    }

    /** The state: one row, so that the history and the snapshot take it whole. */
    private static final class Table {
        private static final int RULE = 0;
        private static final int KINDS = 1;
        private static final int LEFT_HANDS = 2;
        private static final int RIGHT_HANDS = LEFT_HANDS + MOST_KINDS;
        private static final int LENGTHS = RIGHT_HANDS + MOST_KINDS;
        private static final int DOLLS = LENGTHS + MOST_GARLANDS;
        private static final int SIZE = DOLLS + MOST_GARLANDS * MOST_DOLLS;

        private final Row cells;

        Table() {
            cells = new Row(SIZE);
            cells.put(KINDS, FIRST_KINDS);
            for (int kind = 0; kind < MOST_KINDS; kind++) {
                cells.put(LEFT_HANDS + kind, kind % HANDS);
                cells.put(RIGHT_HANDS + kind, (kind + 1) % HANDS);
            }
        }

        void saveTo(Row store, int from) {
            store.copyFrom(cells, 0, from, SIZE);
        }

        void loadFrom(Row store, int from) {
            cells.copyFrom(store, from, 0, SIZE);
        }

        int ruleNow() {
            return cells.at(RULE);
        }

        void putRule(int rule) {
            cells.put(RULE, rule);
        }

        int kindsNow() {
            return cells.at(KINDS);
        }

        void putKinds(int kinds) {
            cells.put(KINDS, kinds);
        }

        int dollsToCut() {
            return 2 * kindsNow();
        }

        boolean hasKind(int kind) {
            return isBelow(kind, kindsNow());
        }

        int leftHand(int kind) {
            return cells.at(LEFT_HANDS + kind);
        }

        int rightHand(int kind) {
            return cells.at(RIGHT_HANDS + kind);
        }

        void putHands(int kind, int left, int right) {
            cells.put(LEFT_HANDS + kind, left);
            cells.put(RIGHT_HANDS + kind, right);
        }

        int leftOf(int doll) {
            return cells.at((isMirrored(doll) ? RIGHT_HANDS : LEFT_HANDS) + kindOf(doll));
        }

        int rightOf(int doll) {
            return cells.at((isMirrored(doll) ? LEFT_HANDS : RIGHT_HANDS) + kindOf(doll));
        }

        int lengthOf(int garland) {
            return cells.at(LENGTHS + garland);
        }

        void putLength(int garland, int length) {
            cells.put(LENGTHS + garland, length);
        }

        boolean hasGarland(int garland) {
            return isBelow(garland, MOST_GARLANDS) && lengthOf(garland) > 0;
        }

        int freeNumber() {
            for (int garland = 0; garland < MOST_GARLANDS; garland++) {
                if (lengthOf(garland) == 0) {
                    return garland;
                }
            }
            return NO_NUMBER;
        }

        private int cellOf(int garland, int place) {
            return DOLLS + garland * MOST_DOLLS + place;
        }

        int dollAt(int garland, int place) {
            return cells.at(cellOf(garland, place));
        }

        int firstDoll(int garland) {
            return dollAt(garland, 0);
        }

        int lastDoll(int garland) {
            return dollAt(garland, lengthOf(garland) - 1);
        }

        void putDoll(int garland, int place, int doll) {
            cells.put(cellOf(garland, place), doll);
        }

        void copyDolls(int garland, int from, int other, int to, int length) {
            cells.copyFrom(cells, cellOf(garland, from), cellOf(other, to), length);
        }

        void hangUp(int garland, Row dolls, int length) {
            cells.copyFrom(dolls, 0, cellOf(garland, 0), length);
            putLength(garland, length);
        }

        void turnRound(int garland) {
            int right = lengthOf(garland) - 1;
            // The doll in the middle meets itself here and is mirrored once, as it must be.
            for (int left = 0; left <= right; left++, right--) {
                int doll = dollAt(garland, left);
                putDoll(garland, left, mirrorOf(dollAt(garland, right)));
                putDoll(garland, right, mirrorOf(doll));
            }
        }

        void foldOut(int garland) {
            int length = lengthOf(garland);
            for (int place = 0; place < length; place++) {
                int doll = dollAt(garland, length - 1 - place);
                putDoll(garland, length + place, mirrorOf(doll));
            }
            putLength(garland, 2 * length);
        }

        boolean clash(int doll, int next) {
            int right = rightOf(doll);
            int left = leftOf(next);
            if (right == 0 || left == 0) {
                return false;
            }
            boolean alike = right == left;
            switch (ruleNow()) {
                case 0:
                    return alike && isMirrored(doll) != isMirrored(next);
                case 1:
                    return alike;
                default:
                    return !alike;
            }
        }

        boolean hasClashIn(Row dolls, int from, int length) {
            for (int place = 1; place < length; place++) {
                if (clash(dolls.at(from + place - 1), dolls.at(from + place))) {
                    return true;
                }
            }
            return false;
        }

        boolean hasClash() {
            for (int garland = 0; garland < MOST_GARLANDS; garland++) {
                if (hasClashIn(cells, cellOf(garland, 0), lengthOf(garland))) {
                    return true;
                }
            }
            return false;
        }

        boolean hasKindsOf(Row dolls, int length) {
            for (int place = 0; place < length; place++) {
                if (!hasKind(kindOf(dolls.at(place)))) {
                    return false;
                }
            }
            return true;
        }
    }

    /** What can be seen of the garlands on the table. */
    private static final class Looks {
        private final Table table;

        Looks(Table table) {
            this.table = table;
        }

        int mirroredIn(int garland) {
            int length = table.lengthOf(garland);
            int mirrored = 0;
            for (int place = 0; place < length; place++) {
                mirrored += oneIf(isMirrored(table.dollAt(garland, place)));
            }
            return mirrored;
        }

        int kindsIn(int garland) {
            int length = table.lengthOf(garland);
            int kinds = 0;
            for (int place = 0; place < length; place++) {
                kinds |= 1 << kindOf(table.dollAt(garland, place));
            }
            return kinds;
        }

        boolean isSame(int garland, int other) {
            int length = table.lengthOf(garland);
            if (length != table.lengthOf(other)) {
                return false;
            }
            for (int place = 0; place < length; place++) {
                if (table.dollAt(garland, place) != table.dollAt(other, place)) {
                    return false;
                }
            }
            return true;
        }

        boolean isMirror(int garland, int other) {
            int length = table.lengthOf(garland);
            if (length != table.lengthOf(other)) {
                return false;
            }
            for (int place = 0; place < length; place++) {
                int opposite = table.dollAt(other, length - 1 - place);
                if (table.dollAt(garland, place) != mirrorOf(opposite)) {
                    return false;
                }
            }
            return true;
        }

        boolean isOwnMirror(int garland) {
            return isMirror(garland, garland);
        }

        private boolean repeatsAfter(int garland, int step) {
            int length = table.lengthOf(garland);
            for (int place = step; place < length; place++) {
                if (table.dollAt(garland, place) != table.dollAt(garland, place - step)) {
                    return false;
                }
            }
            return true;
        }

        int repeatOf(int garland) {
            int length = table.lengthOf(garland);
            for (int step = 1; step < length; step++) {
                if (repeatsAfter(garland, step)) {
                    return step;
                }
            }
            return length;
        }

        int lowestAlike(int garland) {
            for (int other = 0; other < garland; other++) {
                if (isSame(garland, other) || isMirror(garland, other)) {
                    return other;
                }
            }
            return garland;
        }

        int highestKind() {
            int highest = 0;
            for (int garland = 0; garland < MOST_GARLANDS; garland++) {
                int length = table.lengthOf(garland);
                for (int place = 0; place < length; place++) {
                    highest = Math.max(highest, kindOf(table.dollAt(garland, place)));
                }
            }
            return highest;
        }

        int dollsLike(int doll) {
            int alike = 0;
            for (int garland = 0; garland < MOST_GARLANDS; garland++) {
                int length = table.lengthOf(garland);
                for (int place = 0; place < length; place++) {
                    alike += oneIf(table.dollAt(garland, place) == doll);
                }
            }
            return alike;
        }

        int garlands() {
            int garlands = 0;
            for (int garland = 0; garland < MOST_GARLANDS; garland++) {
                garlands += oneIf(table.hasGarland(garland));
            }
            return garlands;
        }

        int dolls() {
            int dolls = 0;
            for (int garland = 0; garland < MOST_GARLANDS; garland++) {
                dolls += table.lengthOf(garland);
            }
            return dolls;
        }

        int mirroredDolls() {
            int mirrored = 0;
            for (int garland = 0; garland < MOST_GARLANDS; garland++) {
                mirrored += mirroredIn(garland);
            }
            return mirrored;
        }

        int ownMirrors() {
            int own = 0;
            for (int garland = 0; garland < MOST_GARLANDS; garland++) {
                own += oneIf(table.hasGarland(garland) && isOwnMirror(garland));
            }
            return own;
        }

        int handsThatMeet() {
            int meetings = 0;
            for (int garland = 0; garland < MOST_GARLANDS; garland++) {
                int length = table.lengthOf(garland);
                for (int place = 1; place < length; place++) {
                    int right = table.rightOf(table.dollAt(garland, place - 1));
                    int left = table.leftOf(table.dollAt(garland, place));
                    meetings += oneIf(right != 0 && left != 0);
                }
            }
            return meetings;
        }

        int differentGarlands() {
            int different = 0;
            for (int garland = 0; garland < MOST_GARLANDS; garland++) {
                different += oneIf(table.hasGarland(garland) && lowestAlike(garland) == garland);
            }
            return different;
        }
    }

    /** Which dolls may hang beside one another, in garlands that need not be on the table. */
    private static final class Chains {
        private final Table table;
        private final Row followers;
        private final Row endings;
        private final Row longer;

        Chains(Table table) {
            this.table = table;
            followers = new Row(DOLLS_TO_CUT);
            endings = new Row(DOLLS_TO_CUT);
            longer = new Row(DOLLS_TO_CUT);
        }

        private static boolean holds(int set, int doll) {
            return (set >> doll & 1) == 1;
        }

        private int followersOf(int doll) {
            int dolls = table.dollsToCut();
            int set = 0;
            for (int next = 0; next < dolls; next++) {
                if (!table.clash(doll, next)) {
                    set |= 1 << next;
                }
            }
            return set;
        }

        private int leadersOf(int doll) {
            int dolls = table.dollsToCut();
            int set = 0;
            for (int before = 0; before < dolls; before++) {
                if (!table.clash(before, doll)) {
                    set |= 1 << before;
                }
            }
            return set;
        }

        private int followersOfAny(int set) {
            int dolls = table.dollsToCut();
            int all = 0;
            for (int doll = 0; doll < dolls; doll++) {
                if (holds(set, doll)) {
                    all |= followersOf(doll);
                }
            }
            return all;
        }

        int fewestBetween(int last, int first) {
            if (!table.clash(last, first)) {
                return 0;
            }
            int ends = leadersOf(first);
            int reached = followersOf(last);
            int seen = reached;
            // In a shortest row no doll stands twice, so it has no more than there are to cut.
            for (int length = 1; length <= DOLLS_TO_CUT && reached != 0; length++) {
                if ((reached & ends) != 0) {
                    return length;
                }
                reached = followersOfAny(reached) & ~seen;
                seen |= reached;
            }
            return NONE;
        }

        /** Puts, for each doll, how many garlands of the length end with it. */
        private void countEndings(int length) {
            int dolls = table.dollsToCut();
            for (int doll = 0; doll < dolls; doll++) {
                followers.put(doll, followersOf(doll));
                endings.put(doll, 1);
            }
            for (int done = 1; done < length; done++) {
                for (int next = 0; next < dolls; next++) {
                    longer.put(next, endingsAheadOf(next));
                }
                endings.copyFrom(longer, 0, 0, dolls);
            }
        }

        private int endingsAheadOf(int next) {
            int dolls = table.dollsToCut();
            int sum = 0;
            for (int doll = 0; doll < dolls; doll++) {
                if (holds(followers.at(doll), next)) {
                    sum += endings.at(doll);
                }
            }
            return sum;
        }

        int garlandsOf(int length) {
            countEndings(length);
            int dolls = table.dollsToCut();
            int sum = 0;
            for (int doll = 0; doll < dolls; doll++) {
                sum += endings.at(doll);
            }
            return sum;
        }

        int ownMirrorsOf(int length) {
            // The doll in the middle of an odd one would have to be its own mirror image.
            if (length % 2 == 1) {
                return 0;
            }
            countEndings(length / 2);
            int dolls = table.dollsToCut();
            int sum = 0;
            for (int doll = 0; doll < dolls; doll++) {
                if (holds(followers.at(doll), mirrorOf(doll))) {
                    sum += endings.at(doll);
                }
            }
            return sum;
        }
    }

    /** The latest states, in a ring, so that the oldest one is dropped without moving the others. */
    private static final class History {
        private final Row states;
        private int oldest;
        private int recorded;

        History() {
            states = new Row(MOST_STATES * Table.SIZE);
            oldest = 0;
            recorded = 0;
        }

        int size() {
            return recorded;
        }

        private int cellOf(int state) {
            return (oldest + state) % MOST_STATES * Table.SIZE;
        }

        void remember(Table table) {
            if (recorded == MOST_STATES) {
                oldest = (oldest + 1) % MOST_STATES;
                recorded--;
            }
            table.saveTo(states, cellOf(recorded));
            recorded++;
        }

        void goBack(Table table) {
            if (recorded > 0) {
                recorded--;
                table.loadFrom(states, cellOf(recorded));
            }
        }
    }

    /** The typed characters, as numbers, so that any character may be among them. */
    private static final class Text {
        private final Row characters;
        private int length;

        Text() {
            characters = new Row(MOST_CHARACTERS);
            length = 0;
        }

        int size() {
            return length;
        }

        boolean isFull() {
            return length >= MOST_CHARACTERS;
        }

        int add(char character) {
            characters.put(length, character);
            length++;
            return length;
        }

        int empty() {
            int before = length;
            length = 0;
            return before;
        }

        private static boolean isDigit(int character) {
            return character >= '0' && character <= '9';
        }

        int fault() {
            int dolls = 0;
            boolean wantsDoll = true;
            boolean mayMirror = false;
            for (int index = 0; index < length; index++) {
                int character = characters.at(index);
                if (wantsDoll && isDigit(character)) {
                    dolls++;
                    wantsDoll = false;
                    mayMirror = true;
                } else if (mayMirror && character == '\'') {
                    mayMirror = false;
                } else if (!wantsDoll && character == ',' && dolls < MOST_DOLLS) {
                    wantsDoll = true;
                    mayMirror = false;
                } else {
                    return index;
                }
            }
            return wantsDoll ? length : NO_FAULT;
        }

        /** Puts the dolls of a text without a fault into the row, and tells how many they are. */
        int spellDolls(Row dolls) {
            int spelt = 0;
            for (int index = 0; index < length; index++) {
                int character = characters.at(index);
                if (isDigit(character)) {
                    dolls.put(spelt, dollOf(character - '0', false));
                    spelt++;
                } else if (character == '\'') {
                    dolls.put(spelt - 1, mirrorOf(dolls.at(spelt - 1)));
                }
            }
            return spelt;
        }
    }
}
